section MMT
/-! Object.<init>, Math.max, Math.min, arraycopy, String constants, throws -/
variable {τ : Type} {F G : mm_H → Prop} {M : mm_M} {pc pc' : Nat} {L : List (Option Value)} {st : List Value} {h : mm_H} {o : Option τ} {lf : τ → mm_O}
theorem wo_init : Cond.instanceMethod objectInit ∈ mm_gw ∧ Cond.code objectInit ⟨#[0xb1]⟩ 1 none ∈ mm_gw := ⟨(mm_gw_of (List.mem_of_getElem? (i := 66) (by decide +kernel)) rfl), (mm_gw_of (List.mem_of_getElem? (i := 67) (by decide +kernel)) rfl)⟩
theorem wo_max : Cond.static Lib.Math.max.name ∈ mm_gw ∧ Cond.initialized "java/lang/Math" ∈ mm_gw ∧ Cond.code Lib.Math.max.name Lib.Math.max.code 2 (some .int) ∈ mm_gw := ⟨(mm_gw_of (List.mem_of_getElem? (i := 75) (by decide +kernel)) rfl), (mm_gw_of (List.mem_of_getElem? (i := 32) (by decide +kernel)) rfl), (mm_gw_of (List.mem_of_getElem? (i := 76) (by decide +kernel)) rfl)⟩
theorem wo_min : Cond.static Lib.Math.min.name ∈ mm_gw ∧ Cond.initialized "java/lang/Math" ∈ mm_gw ∧ Cond.code Lib.Math.min.name Lib.Math.min.code 2 (some .int) ∈ mm_gw := ⟨(mm_gw_of (List.mem_of_getElem? (i := 552) (by decide +kernel)) rfl), (mm_gw_of (List.mem_of_getElem? (i := 32) (by decide +kernel)) rfl), (mm_gw_of (List.mem_of_getElem? (i := 553) (by decide +kernel)) rfl)⟩
theorem wo_cpy : Cond.native arraycopyName ∈ mm_gw ∧ Cond.static arraycopyName ∈ mm_gw ∧ Cond.initialized "java/lang/System" ∈ mm_gw := ⟨(mm_gw_of (List.mem_of_getElem? (i := 632) (by decide +kernel)) rfl), (mm_gw_of (List.mem_of_getElem? (i := 631) (by decide +kernel)) rfl), (mm_gw_of (List.mem_of_getElem? (i := 50) (by decide +kernel)) rfl)⟩
theorem me_objInit {q idx : Nat} (d : decode (my_b M) pc = .ok (.invokespecial idx, 3)) (hp : pc + 3 = pc') (hk : Cond.methodLink (my_y M).cls idx objectInit ∈ mm_gw) (hfr : 1 ≤ my_f M ∧ 20 ≤ my_w M) (hcat : (st.map fun v => v.category).sum ≤ 8) (K : mm_E2 F G M pc' L st h o lf) : mm_E2 F G M pc L (.ref q :: st) h o lf := by
  subst hp
  refine mm_lift (st' := st) (fun X p l e R s m args below meth c H locs ls cells slots Q hC hP hS hL hF _ _ kk => ?_) K
  obtain ⟨hl, hx, hb, hr, hml, hown, hlk, hts, hE, hte, hin0, hRf, hRl⟩ := hC
  exact W.objInit hx hb hown (hts _ hk) (hts _ wo_init.1) (hts _ wo_init.2) rfl (by rw [hml]; exact hL.1) rfl d (by omega) (by show 2 * 0 + _ + 12 ≤ _; rw [mx_cats]; omega) kk
theorem me_mmax {idx : Nat} {x y : Int32} (d : decode (my_b M) pc = .ok (.invokestatic idx, 3)) (hp : pc + 3 = pc') (hk : Cond.methodLink (my_y M).cls idx Lib.Math.max.name ∈ mm_gw) (hfr : 1 ≤ my_f M ∧ 21 ≤ my_w M) (hcat : (st.map fun v => v.category).sum ≤ 8) (K : mm_E2 F G M pc' L (.int (if x < y then y else x) :: st) h o lf) : mm_E2 F G M pc L (.int y :: .int x :: st) h o lf := by
  subst hp
  refine mm_lift (st' := .int (if x < y then y else x) :: st) (fun X p l e R s m args below meth c H locs ls cells slots Q hC hP hS hL hF hc hs kk => ?_) K
  obtain ⟨hl, hx, hb, hr, hml, hown, hlk, hts, hE, hte, hin0, hRf, hRl⟩ := hC
  exact va_mmax hx hb (by rw [hml]; exact hL.1.symm) hown (hts _ hk) (hts _ wo_max.1) (hts _ wo_max.2.1) (hts _ wo_max.2.2) (by omega) (by rw [mx_cats]; omega) hc hs d kk
theorem me_mmin {idx : Nat} {x y : Int32} (d : decode (my_b M) pc = .ok (.invokestatic idx, 3)) (hp : pc + 3 = pc') (hk : Cond.methodLink (my_y M).cls idx Lib.Math.min.name ∈ mm_gw) (hfr : 1 ≤ my_f M ∧ 21 ≤ my_w M) (hcat : (st.map fun v => v.category).sum ≤ 8) (K : mm_E2 F G M pc' L (.int (if y < x then y else x) :: st) h o lf) : mm_E2 F G M pc L (.int y :: .int x :: st) h o lf := by
  subst hp
  refine mm_lift (st' := .int (if y < x then y else x) :: st) (fun X p l e R s m args below meth c H locs ls cells slots Q hC hP hS hL hF hc hs kk => ?_) K
  obtain ⟨hl, hx, hb, hr, hml, hown, hlk, hts, hE, hte, hin0, hRf, hRl⟩ := hC
  exact va_mmin hx hb (by rw [hml]; exact hL.1.symm) hown (hts _ hk) (hts _ wo_min.1) (hts _ wo_min.2.1) (hts _ wo_min.2.2) (by omega) (by rw [mx_cats]; omega) hc hs d kk
theorem me_copyi {F' : mm_H → Prop} {idx a b n0 n1 : Nat} {sp dp n : Int32} (d : decode (my_b M) pc = .ok (.invokestatic idx, 3)) (hp : pc + 3 = pc') (hk : Cond.methodLink (my_y M).cls idx arraycopyName ∈ mm_gw) {ta tb : Nat} (hka : F h → mm_kk h a = (ta, n0)) (hkb : F h → mm_kk h b = (tb, n1)) (hna : F h → a < mh_n h) (hnb : F h → b < mh_n h)
    (h1 : ¬ sp < 0) (h2 : ¬ dp < 0) (h3 : ¬ n < 0) (h4 : sp.toNatClampNeg + n.toNatClampNeg ≤ n0) (h5 : dp.toNatClampNeg + n.toNatClampNeg ≤ n1) (hfr : 1 ≤ my_f M ∧ 60 ≤ my_w M) (hcat : (st.map fun v => v.category).sum ≤ 8)
    (hF' : F h → F' (ms_Y h b (va_cpy (mh_I h a) (mh_I h b) sp.toNatClampNeg dp.toNatClampNeg n.toNatClampNeg))) (K : mm_E2 F' G M pc' L st (ms_Y h b (va_cpy (mh_I h a) (mh_I h b) sp.toNatClampNeg dp.toNatClampNeg n.toNatClampNeg)) o lf) (hta : ta % 10 = 1 := by decide) (htb : tb % 10 = 1 := by decide) : mm_E2 F G M pc L (.int n :: .int dp :: .ref b :: .int sp :: .ref a :: st) h o lf := by
  subst hp
  refine mm_liftH (st' := st) hF' rfl rfl (fun X hF hP => mm_Pr_Y (hnb hF) hP) (fun X p l e R s m args below meth c H locs ls cells slots Q hC hP hS hL hF kk => ?_) K
  obtain ⟨hl, hx, hb, hr, hml, hown, hlk, hts, hE, hte, hin0, hRf, hRl⟩ := hC
  show W p l e R s m args below meth c H locs cells slots Q (F0 m pc ls (.int n :: .int dp :: .ref (mx_ad X b) :: .int sp :: .ref (mx_ad X a) :: st.map (mx_cv X)))
  rw [mx_ad_lt (Nat.lt_of_lt_of_le (hna hF) hP.2.1), mx_ad_lt (Nat.lt_of_lt_of_le (hnb hF) hP.2.1)]
  have hka := hka hF
  have hkb := hkb hF
  have hset : (mm_ws X h).set b (mx_base X + b, .inl (mx_dA X 0, n1, .inl (va_cpy (mh_I h a) (mh_I h b) sp.toNatClampNeg dp.toNatClampNeg n.toNatClampNeg))) = mm_ws X (ms_Y h b (va_cpy (mh_I h a) (mh_I h b) sp.toNatClampNeg dp.toNatClampNeg n.toNatClampNeg)) := by
    have e1 := mm_cell_1 (X := X) (h := ms_Y h b (va_cpy (mh_I h a) (mh_I h b) sp.toNatClampNeg dp.toNatClampNeg n.toNatClampNeg)) hkb htb
    have e2 : mh_I (ms_Y h b (va_cpy (mh_I h a) (mh_I h b) sp.toNatClampNeg dp.toNatClampNeg n.toNatClampNeg)) b = va_cpy (mh_I h a) (mh_I h b) sp.toNatClampNeg dp.toNatClampNeg n.toNatClampNeg := funext fun j => if_pos rfl
    rw [e2] at e1
    rw [← e1]
    exact mm_ws_set (hnb hF) rfl (fun p hp => mm_ne_Y p hp)
  exact va_copyi hx hb (by rw [hml]; exact hL.1.symm) hown (hts _ hk) (hts _ wo_cpy.1) (hts _ wo_cpy.2.1) (hts _ wo_cpy.2.2) hE.2.2.1 hP.1 (mm_wsD X h) hS a b 0 0 (by rw [mm_ws_get (hna hF), mm_cell_1 hka hta]) (by rw [mm_ws_get (hnb hF), mm_cell_1 hkb htb]) rfl rfl rfl h1 h2 h3 h4 h5 (fun i _ => rfl) (by omega)
    (by rw [mx_cats]; have : nativeFrameWords "java/lang/System" "arraycopy" 5 + 11 ≤ 40 := by decide +kernel
        omega) d (fun H1 locs1 hP1 _ hS1 => kk H1 locs1 (hset ▸ hP1) hS1)
theorem mx_ad_str (X : mm_X) {i : Nat} (hi : i < 17) : mx_ad X (mm_NN + 1 + i) = mx_adK X i := by
  unfold mx_ad
  rw [if_neg (by omega), if_neg (by omega), if_pos (by omega), show mm_NN + 1 + i - (mm_NN + 1) = i by omega]
theorem mx_ad_val (X : mm_X) {i : Nat} (hi : i < 17) : mx_ad X (mm_NN + 101 + i) = mx_adV X i := by
  unfold mx_ad
  rw [if_neg (by omega), if_neg (by omega), if_neg (by omega), if_pos (by omega), show mm_NN + 101 + i - (mm_NN + 101) = i by omega]
theorem mx_ad_fmt (X : mm_X) (k : Nat) : mx_ad X (mm_NN + 201 + k) = mx_adF X k := by
  unfold mx_ad
  rw [if_neg (by omega), if_neg (by omega), if_neg (by omega), if_neg (by omega), show mm_NN + 201 + k - (mm_NN + 201) = k by omega]
theorem mm_srl_lt : ∀ q ∈ mm_srl, q.2.2.2 < 17 := by decide +kernel
theorem me_ldc {idx i q : Nat} {tx : String} (d : decode (my_b M) pc = .ok (.ldc idx, 2)) (hp : pc + 2 = pc') (hs : ((my_y M).cls, idx, tx, i) ∈ mm_srl) (hq : mm_NN + 1 + i = q) (K : mm_E2 F G M pc' L (.ref q :: st) h o lf) : mm_E2 F G M pc L st h o lf := by
  subst hp
  subst hq
  refine mm_lift (st' := .ref (mm_NN + 1 + i) :: st) (fun X p l e R s m args below meth c H locs ls cells slots Q hC hP hS hL hF hc hs9 kk => ?_) K
  obtain ⟨hl, hx, hb, hr, hml, hown, hlk, hts, hE, hte, hin0, hRf, hRl⟩ := hC
  have kk' : W p l e R s m args below meth c H locs cells slots Q (F0 m (pc + 2) ls (.ref (mx_ad X (mm_NN + 1 + i)) :: st.map (mx_cv X))) := kk
  rw [mx_ad_str X (mm_srl_lt _ hs)] at kk'
  exact va_ldcS hx hb hown (hE.2.2.2.2.1 _ hs) d kk'
-- throws
theorem mm_nw_on {w : Cond} (h : mm_nw w = true) : w.onTables = true := by
  cases w <;> first | rfl | exact absurd h (by simp [mm_nw])
theorem mm_P_X {X : mm_X} {H H1 : Heap} (hP : mm_P X h H) (hq : ∀ q : Nat, q < H.size → H1[q]? = H[q]?) : mm_P X (ms_X h) H1 := by
  refine ⟨?_, hP.2⟩
  show va_P (mx_G X) mm_cl (mm_ws X h) H1
  exact hP.1.kept (fun k q hk => hq _ (hP.1 k q hk).lt)
theorem mm_thr {x : τ} {cls tx : String} {ik is ic i : Nat} (hhh : my_h M = []) (hlf : lf x = (.inr cls, ms_X h)) (hFG : F h → G (ms_X h)) (ht : mm_tw (my_y M).cls ik ic cls) (hs : ((my_y M).cls, is, tx, i) ∈ mm_srl) (hfr : 6 ≤ my_f M) (hwd : (st.map fun v => v.category).sum + 82 ≤ my_w M)
    (row : ∀ (X : mm_X) (p : Program) (l : Launch) (e : Env) (R : Room) (s : State) (m : MethodId) (args : Array Value) (below : List Frame) (meth : Method) (c : Code) (H : Heap) (locs : List Loc) (ls : Array Slot) (cells slots mc ms : Nat), p.tables.exec = Jvm.exec → c.code = my_b M → l.stackTraces = false → s.vm.findClass (my_y M).cls = some m.cls → Bundle.fit cls = true → (∀ n ∈ mm_xn, Bundle.fit n = true) →
      (Cond.classLink (my_y M).cls ik cls).before args s = true → (Cond.initialized cls).before args s = true → vk_R (my_y M).cls is tx (mx_adK X i) s → (∀ w ∈ vx_atS (my_y M).cls ic cls mm_xn, w.before args s = true) → (∀ w ∈ Cond.classLink (my_y M).cls ik cls :: Cond.initialized cls :: vx_atS (my_y M).cls ic cls mm_xn, vx_ot w = true) →
      vx_Zq Bundle.tN "UNASSIGNED_STACK" Bundle.steD (mm_A X) s s.heap → vx_Zq Bundle.tN "SUPPRESSED_SENTINEL" Bundle.listD (mm_A X) s s.heap → va_S (mm_A X) s.heap H locs → ls.size = c.maxLocals → (∀ x ∈ c.exceptionTable.toList, False) → mm_xn.length + 3 < R.frames → ((st.map (mx_cv X)).map fun v => v.category).sum + (13 * (mm_xn.length + 1) + 43) ≤ R.locals → cells + 1 ≤ R.cells → slots + 6 ≤ R.slots → meth.locks = false →
      (∀ t : State, s.vm.Alike t.vm → H.size ≤ t.heap.size → (∀ q : Nat, q < H.size → t.heap[q]? = H[q]?) → mm_V X (lf x) cls s t) → (∀ z ∈ locs, mm_A X z.base) → cells + 1 ≤ mc → slots + 6 ≤ ms → W p l e R s m args below meth c H locs cells slots (vx_MQ below (mm_Q X (lf x)) (mm_V X (lf x)) args s mc ms (mm_A X)) (F0 m pc ls (st.map (mx_cv X)))) :
    mm_E2 F G M pc L st h (some x) lf := by
  intro y hy hF
  cases hy
  rw [hlf] at row ⊢
  refine ⟨⟨Nat.le_succ _, Nat.le_add_right _ _⟩, hFG hF, fun X p l e R s m args below meth c hC k0 w0 h0 b1 b2 b3 b4 H locs ls hP hS hL => ?_⟩
  obtain ⟨hl, hx, hb, hr, hml, hown, hlk, hts, hE, hte, hin0, hRf, hRl⟩ := hC
  obtain ⟨t1, t2, t3, t4⟩ := ht
  have hte : c.exceptionTable.toList = tableOf (my_h M) := hte.elim (fun z => by rw [hhh] at z; cases z) id
  rw [hhh] at hte
  have b3' : mh_c h + 1 - k0 ≤ R.cells := b3
  have b4' : mh_w h + 6 - w0 ≤ R.slots := b4
  show W p l e R s m args below meth c H locs (mh_c h - k0) (mh_w h - w0) (vx_MQ below (mm_Q X (.inr cls, ms_X h)) (mm_V X (.inr cls, ms_X h)) args s (mh_c h + 1 - k0) (mh_w h + 6 - w0) (mm_A X)) (F0 m pc ls (st.map (mx_cv X)))
  refine row X p l e R s m args below meth c H locs ls _ _ _ _ hx hb hl hown t3 (by decide +kernel) (hts _ t1) (hts _ t2) (hE.2.2.2.2.1 _ hs) (fun w hw => ?_) (fun w hw => ?_) hE.2.2.2.2.2.1.1 hE.2.2.2.2.2.1.2 hS (hL.1.trans hml.symm) (fun z hz => by rw [hte] at hz; cases hz)
    (Nat.lt_of_lt_of_le (show mm_xn.length + 3 < 6 by decide) (Nat.le_trans hfr hRf)) (by rw [mx_cats]; show _ + 82 ≤ _; omega) (by omega) (by omega) hlk (fun t ht hsz hq => ⟨rfl, mm_P_X hP hq, ⟨Nat.le_trans hS.1 hsz, fun q h1 h2 => (hq q (Nat.lt_of_lt_of_le h1 hS.1)).trans (hS.2.1 q h1 h2)⟩⟩) hS.2.2 (by omega) (by omega)
  · obtain ⟨g1, g2⟩ := t4 w hw
    cases hg : goodWord w with
    | true => exact hts _ (mm_gw_of g1 hg)
    | false => exact va_Nw.use (mm_nw_on (by rw [hg] at g2; exact g2)) (hE.2.2.2.2.2.2.1 w g1 (by rw [hg] at g2; exact g2))
  · rcases List.mem_cons.mp hw with rfl | hw
    · exact Bool.or_eq_true_iff.mpr (Or.inr (List.mem_filter.mp t1).2)
    · rcases List.mem_cons.mp hw with rfl | hw
      · exact Bool.or_eq_true_iff.mpr (Or.inr (List.mem_filter.mp t2).2)
      · obtain ⟨g1, g2⟩ := t4 w hw
        cases hg : goodWord w with
        | true => exact Bool.or_eq_true_iff.mpr (Or.inr hg)
        | false => exact Bool.or_eq_true_iff.mpr (Or.inl (mm_nw_on (by rw [hg] at g2; exact g2)))
theorem me_throw {x : τ} {cls tx : String} {ik is ic i : Nat} (d0 : decode (my_b M) pc = .ok (.new ik, 3)) (d3 : decode (my_b M) (pc + 3) = .ok (.dup, 1)) (d4 : decode (my_b M) (pc + 4) = .ok (.ldc is, 2)) (d6 : decode (my_b M) (pc + 6) = .ok (.invokespecial ic, 3)) (d9 : decode (my_b M) (pc + 9) = .ok (.athrow, 1))
    (hhh : my_h M = []) (hlf : lf x = (.inr cls, ms_X h)) (hFG : F h → G (ms_X h)) (ht : mm_tw (my_y M).cls ik ic cls) (hs : ((my_y M).cls, is, tx, i) ∈ mm_srl) (hfr : 6 ≤ my_f M) (hwd : (st.map fun v => v.category).sum + 82 ≤ my_w M) : mm_E2 F G M pc L st h (some x) lf :=
  mm_thr hhh hlf hFG ht hs hfr hwd (fun X p l e R s m args below meth c H locs ls cells slots mc ms a1 a2 a3 a4 a5 a6 a7 a8 a9 a10 a11 a12 a13 a14 a15 a16 a17 a18 a19 a20 a21 a22 a23 a24 a25 => vx_throwS a1 a2 a3 a4 a5 a6 a7 a8 a9 a10 a11 a12 a13 a14 a15 d0 d3 d4 d6 d9 (fun z hz => (a16 z hz).elim) a17 a18 a19 a20 a21 a22 a23 a24 a25)
theorem me_throwW {x : τ} {cls tx : String} {ik is ic i : Nat} (d0 : decode (my_b M) pc = .ok (.new ik, 3)) (d3 : decode (my_b M) (pc + 3) = .ok (.dup, 1)) (d4 : decode (my_b M) (pc + 4) = .ok (.ldc_w is, 3)) (d7 : decode (my_b M) (pc + 7) = .ok (.invokespecial ic, 3)) (d10 : decode (my_b M) (pc + 10) = .ok (.athrow, 1))
    (hhh : my_h M = []) (hlf : lf x = (.inr cls, ms_X h)) (hFG : F h → G (ms_X h)) (ht : mm_tw (my_y M).cls ik ic cls) (hs : ((my_y M).cls, is, tx, i) ∈ mm_srl) (hfr : 6 ≤ my_f M) (hwd : (st.map fun v => v.category).sum + 82 ≤ my_w M) : mm_E2 F G M pc L st h (some x) lf :=
  mm_thr hhh hlf hFG ht hs hfr hwd (fun X p l e R s m args below meth c H locs ls cells slots mc ms a1 a2 a3 a4 a5 a6 a7 a8 a9 a10 a11 a12 a13 a14 a15 a16 a17 a18 a19 a20 a21 a22 a23 a24 a25 => vx_throwSW a1 a2 a3 a4 a5 a6 a7 a8 a9 a10 a11 a12 a13 a14 a15 d0 d3 d4 d7 d10 (fun z hz => (a16 z hz).elim) a17 a18 a19 a20 a21 a22 a23 a24 a25)
end MMT

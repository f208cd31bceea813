section MMUO
/-! the law's own Stock: its constructor -/
variable {τ : Type} {F G F' : mm_H → Prop} {M : mm_M} {pc pc' : Nat} {L : List (Option Value)} {st : List Value} {h : mm_H} {o : Option τ} {lf : τ → mm_O}
/-- ten rows of twenty numbers made -/
def ms_M (h : mm_H) : mm_H := ((mh_n h + 11, mh_c h + 11, mh_w h + 210), mh_I h, (fun p j => if p = mh_n h ∧ j < 10 then some (mh_n h + 1 + j) else mh_R h p j), mh_J h, fun p j => if p = mh_n h then (if j = 0 then 7 else if j = 1 then 10 else 0) else if mh_n h < p ∧ p ≤ mh_n h + 10 then (if j = 0 then 1 else if j = 1 then 20 else 0) else mh_D h p j)
theorem mu_lenA : "[" ++ (FieldType.array .int).toString = "[[I" := by decide +kernel
theorem mm_cell_M {X : mm_X} {h : mm_H} {p : Nat} (hp : p < mh_n h) : mm_cell X (ms_M h) p = mm_cell X h p := by
  have h1 : mh_R (ms_M h) p = mh_R h p := funext fun j => if_neg (fun z => by omega)
  have h2 : mh_D (ms_M h) p = mh_D h p := by
    funext j
    show (if p = mh_n h then (if j = 0 then 7 else if j = 1 then 10 else 0) else if mh_n h < p ∧ p ≤ mh_n h + 10 then (if j = 0 then 1 else if j = 1 then 20 else 0) else mh_D h p j) = _
    rw [if_neg (by omega), if_neg (by omega)]
  exact mm_cell_ne rfl h1 rfl h2
theorem mm_kk_M0 {h : mm_H} (h0 : 352 ≤ mh_n h) : mm_kk (ms_M h) (mh_n h) = (7, 10) := by
  unfold mm_kk
  rw [if_neg (by omega)]
  show ((if mh_n h = mh_n h then (if 0 = 0 then 7 else if 0 = 1 then 10 else 0) else _), (if mh_n h = mh_n h then (if 1 = 0 then 7 else if 1 = 1 then 10 else 0) else _)) = (7, 10)
  simp
theorem mm_kk_M1 {h : mm_H} (h0 : 352 ≤ mh_n h) {j : Nat} (hj : j < 10) : mm_kk (ms_M h) (mh_n h + 1 + j) = (1, 20) := by
  unfold mm_kk
  rw [if_neg (by omega)]
  show ((if mh_n h + 1 + j = mh_n h then _ else if mh_n h < mh_n h + 1 + j ∧ mh_n h + 1 + j ≤ mh_n h + 10 then (if 0 = 0 then 1 else if 0 = 1 then 20 else 0) else _), (if mh_n h + 1 + j = mh_n h then _ else if mh_n h < mh_n h + 1 + j ∧ mh_n h + 1 + j ≤ mh_n h + 10 then (if 1 = 0 then 1 else if 1 = 1 then 20 else 0) else _)) = (1, 20)
  have a1 : ¬ mh_n h + 1 + j = mh_n h := by omega
  have a2 : mh_n h < mh_n h + 1 + j ∧ mh_n h + 1 + j ≤ mh_n h + 10 := by omega
  rw [if_neg a1, if_neg a1, if_pos a2, if_pos a2]
  rfl
theorem me_multi {idx : Nat} (h0 : 352 ≤ mh_n h) (hlt : mh_n h + 11 ≤ mm_NN) (d : decode (my_b M) pc = .ok (.multianewarray idx 2, 4)) (hp : pc + 4 = pc') (hw : Cond.classLink (my_y M).cls idx "[[I" ∈ mm_gw) (hFK : F h → mh_c h = mh_n h) (hF' : F h → F' (ms_M h)) (K : mm_E2 F' G M pc' L (.ref (mh_n h) :: st) (ms_M h) o lf) : mm_E2 F G M pc L (.int 20 :: .int 10 :: st) h o lf := by
  subst hp
  intro x hx hF
  obtain ⟨k1, k2, k3⟩ := K x hx (hF' hF)
  have k1' : mh_c h + 11 ≤ mh_c (lf x).2 ∧ mh_w h + 210 ≤ mh_w (lf x).2 := k1
  refine ⟨⟨by omega, by omega⟩, k2, fun X p l e R s m args below meth c hC k0 w0 g0 g1 g2 g3 g4 H locs ls hP hS hL => ?_⟩
  have hE := hC.2.2.2.2.2.2.2.2.1
  have hlo := mm_low hE hP hS
  have hcn := hFK hF
  refine mm_sz fun hsz => ?_
  have hsize : H.size = mx_base X + mh_n h := by omega
  obtain ⟨hl, hx9, hb, hr, hml, hown, hlk, hts, -, hte, hin0, hRf, hRl⟩ := hC
  have hAA := hE.2.2.2.2.2.2.2.2.2.1
  obtain ⟨⟨kI, cc, hI, hIk⟩, kA, hA, hAk⟩ := hAA
  have hnA : s.vm.findClass "[[I" = some (mx_dA X 6) := by
    have h9 := (hE.2.2.1.2 6 _ rfl).2
    have h8 : s.vm.findClass ("[" ++ (FieldType.array .int).toString) = some (mx_dA X 6) := h9
    rw [mu_lenA] at h8
    exact h8
  have e7 : (10 : Int32).toNatClampNeg = 10 := by decide
  have e8 : (20 : Int32).toNatClampNeg = 20 := by decide
  intro T hT X9
  have hpl : e.platform.magicAccessors = ({} : Platform).magicAccessors := by rw [X9.admits.platform]
  obtain ⟨c0, hfc0, hcl⟩ := Cond.classLink_spec hown (hts _ hw) e.platform hpl
  cases hnA.symm.trans hfc0
  obtain ⟨hg₁, hwarm₁, hready₁⟩ := State.classEntry (e := e) X9.warmed hcl
  generalize T.vm.noted m.cls idx (.cls (mx_dA X 6)) = vm₁ at hg₁ hwarm₁ hready₁
  have hal : s.vm.Alike vm₁ := hwarm₁.alike
  obtain ⟨kA₁, hkA₁, heA⟩ := hal.2.2 _ _ hA
  obtain ⟨kI₁, hkI₁, heI⟩ := hal.2.2 _ _ hI
  have hAk₁ : kA₁.kind = .array (mx_dA X 0) (.array .int) := by rw [heA]; exact hAk
  have hIk₁ : kI₁.kind = .array cc .int := by rw [heI]; exact hIk
  have X₁ := X9.noted hwarm₁
  have hcl9 : mh_c h - k0 + 11 ≤ R.cells := by omega
  have hsl9 : mh_w h - w0 + 210 ≤ R.slots := by omega
  obtain ⟨hr1, hr2⟩ := X9.roomAbove hcl9 hsl9
  have XF := mu_stand X₁ (show s.heap.size ≤ T.heap.size by rw [hT]; exact hS.1) (mx_dA X 6) (mx_dA X 0) 10 20 10
  obtain ⟨z1, z2, z3⟩ := mu_sz (T.setVm vm₁) (mx_dA X 6) (mx_dA X 0) 10 20 10
  have z4 := mu_out (T.setVm vm₁) (mx_dA X 6) (mx_dA X 0) 10 20 10
  have z5 := mu_in (T.setVm vm₁) (mx_dA X 6) (mx_dA X 0) 10 20 10
  have hTs : (T.setVm vm₁).heap = H := hT
  have hz := k3 X p l e R s m args below meth c ⟨hl, hx9, hb, hr, hml, hown, hlk, hts, hE, hte, hin0, hRf, hRl⟩ k0 w0 g0 (by show k0 ≤ mh_c h + 11; omega) (by show w0 ≤ mh_w h + 210; omega) g3 g4 (mu_st (T.setVm vm₁) (mx_dA X 6) (mx_dA X 0) 10 20 10).heap locs ls ?_ ?_ hL
  · have e1 : mh_c (ms_M h) - k0 = mh_c h - k0 + 1 + 10 := by show mh_c h + 11 - k0 = _; omega
    have e2 : mh_w (ms_M h) - w0 = mh_w h - w0 + 10 + 10 * 20 := by show mh_w h + 210 - w0 = _; omega
    rw [e1, e2] at hz
    obtain ⟨t, a1, b1⟩ := hz _ rfl XF
    refine ⟨t, ?_, b1⟩
    have e9 : (Value.ref (mx_ad X (mh_n h))) = .ref T.heap.size := by rw [mx_ad_lt (by omega), hT, hsize]
    have a2 : Steps p.tables e below ((mu_st (T.setVm vm₁) (mx_dA X 6) (mx_dA X 0) 10 20 10).setTop (F0 m (pc + 4) ls (.ref (mx_ad X (mh_n h)) :: st.map (mx_cv X)))) t := a1
    rw [e9] at a2
    show Steps p.tables e below (T.setTop (F0 m pc ls (.int 20 :: .int 10 :: st.map (mx_cv X)))) t
    have hdg : decode c.code pc = .ok (.multianewarray idx 2, 4) := by rw [hb]; exact d
    jvm_step X9.here [hx9, hdg]
    simp only [multianewarray.sem, wp_bind', W.resolveClassAt_links (State.method?_setTop (F0 m pc ls (.int 20 :: .int 10 :: st.map (mx_cv X))) X9.here.top) hg₁]
    rw [W.popN, if_neg (by decide)]
    refine ⟨_, State.topJava?_setTop' (s := T.setVm vm₁) (F0 m pc ls (.int 20 :: .int 10 :: st.map (mx_cv X))) X9.here.top, [.int 10, .int 20], st.map (mx_cv X), rfl, rfl, ?_⟩
    simp only [List.mapM_cons, List.mapM_nil, wp_bind', wp_pure']
    have b1' : T.heap.size + 1 + 10 ≤ e.platform.maxCells := by omega
    have b2' : T.slotsUsed + 10 + 10 * 20 ≤ e.platform.maxSlots := by omega
    refine mu_make (kA := kA₁) (kI := kI₁) (cI := mx_dA X 0) (cc := cc) hkA₁ hAk₁ hkI₁ hIk₁ (by decide) (by decide) ?_ ?_ ?_ ?_ ?_ ?_ (fun d' acts' => ?_)
    · rw [Launch.admits_arrayLengthLimit X9.admits, e7]; decide
    · rw [Launch.admits_maxHeapBytes X9.admits, e7]; decide
    · rw [Launch.admits_arrayLengthLimit X9.admits, e8]; decide
    · rw [Launch.admits_maxHeapBytes X9.admits, e8]; decide
    · rw [e7]; exact b1'
    · rw [e7, e8]; exact b2'
    · rw [e7, e8]
      have eS : ((T.setTop (F0 m pc ls (.int 20 :: .int 10 :: st.map (mx_cv X)))).setVm vm₁).setTop (F0 m pc ls (st.map (mx_cv X))) = (T.setVm vm₁).setTop (F0 m pc ls (st.map (mx_cv X))) := by
        show ((T.setVm vm₁).setTop (F0 m pc ls (.int 20 :: .int 10 :: st.map (mx_cv X)))).setTop _ = _
        rw [State.setTop_setTop]
      have eT : mu_st (((T.setTop (F0 m pc ls (.int 20 :: .int 10 :: st.map (mx_cv X)))).setVm vm₁).setTop (F0 m pc ls (st.map (mx_cv X)))) (mx_dA X 6) (mx_dA X 0) 10 20 10 = (mu_st (T.setVm vm₁) (mx_dA X 6) (mx_dA X 0) 10 20 10).setTop (F0 m pc ls (st.map (mx_cv X))) := by rw [eS, mu_top]
      rw [eT]
      simp only [wp_bind', W.mark, W.pushRef, State.topJava?_setTop' _ XF.here.top, Option.some.injEq, exists_eq_left', State.setTop_setTop, State.heap_setTop]
      intro acts
      simp [jvm, XF.here.top]
      exact a2
  · have hTz : T.heap.size = mx_base X + mh_n h := by rw [hT]; exact hsize
    have e0 : (T.setVm vm₁).heap.size = mx_base X + mh_n h := hTz
    rw [e0] at z4 z5
    refine ⟨fun k q hk => ?_, ?_⟩
    · obtain ⟨hk1, rfl⟩ := mm_ws_inv hk
      have hk2 : k < mh_n h + 11 := hk1
      by_cases c1 : k < mh_n h
      · rw [mm_cell_M c1]
        refine va_P.kept hP.1 (fun k' q' hk' => ?_) k _ (mm_ws_get c1)
        have hlt9 := (hP.1 k' q' hk').lt
        rw [mu_old (T.setVm vm₁) (mx_dA X 6) (mx_dA X 0) 10 20 (q := q'.1) (by show q'.1 < T.heap.size; rw [hT]; exact hlt9) 10]
        exact congrArg (fun H9 : Heap => H9[q'.1]?) hTs
      · by_cases c2 : k = mh_n h
        · subst c2
          rw [mm_cell_7 (mm_kk_M0 h0) rfl]
          show (mu_st (T.setVm vm₁) (mx_dA X 6) (mx_dA X 0) 10 20 10).heap[mx_base X + mh_n h]? = some (vp_cell (mx_dA X 6) (10, .inr (.inr (.inr (.inr (fun j => (mh_R (ms_M h) (mh_n h) j).map (mx_ad X)))))))
          rw [z4, vp_cell_q]
          refine congrArg some (congrArg (arrV (mx_dA X 6) 10) (funext fun j => ?_))
          by_cases hj : j < 10
          · rw [if_pos hj, show mh_R (ms_M h) (mh_n h) j = some (mh_n h + 1 + j) from if_pos ⟨rfl, hj⟩]
            show Value.ref (mx_base X + mh_n h + 1 + j) = .ref (mx_ad X (mh_n h + 1 + j))
            rw [mx_ad_lt (by omega), show mx_base X + mh_n h + 1 + j = mx_base X + (mh_n h + 1 + j) by omega]
          · rw [if_neg hj, show mh_R (ms_M h) (mh_n h) j = mh_R h (mh_n h) j from if_neg (fun z => hj z.2)]
            obtain ⟨y1, y2, y3, y4⟩ := hP.2.2.2 (mh_n h) (Nat.le_refl _) (by omega) j
            rw [y2]
            rfl
        · obtain ⟨j, rfl⟩ : ∃ j, k = mh_n h + 1 + j := ⟨k - (mh_n h + 1), by omega⟩
          have hj : j < 10 := by omega
          rw [mm_cell_1 (mm_kk_M1 h0 hj) rfl]
          have z6 := z5 j hj
          rw [show mx_base X + mh_n h + 1 + j = mx_base X + (mh_n h + 1 + j) by omega] at z6
          show (mu_st (T.setVm vm₁) (mx_dA X 6) (mx_dA X 0) 10 20 10).heap[mx_base X + (mh_n h + 1 + j)]? = some (vp_cell (mx_dA X 0) (20, .inl (mh_I h (mh_n h + 1 + j))))
          rw [z6]
          have y0 : mh_I h (mh_n h + 1 + j) = fun _ => 0 := by
            funext i
            exact (hP.2.2.2 (mh_n h + 1 + j) (by omega) (by omega) i).1
          rw [y0]
          rfl
    · obtain ⟨p1, p2, p3⟩ := hP.2
      refine ⟨hlt, p2, fun q hq1 hq2 k => ?_⟩
      have hq3 : mh_n h + 11 ≤ q := hq1
      obtain ⟨y1, y2, y3, y4⟩ := p3 q (by omega) hq2 k
      refine ⟨y1, ?_, y3, ?_⟩
      · rw [show mh_R (ms_M h) q k = mh_R h q k from if_neg (fun z => by omega)]
        exact y2
      · show (if q = mh_n h then _ else if mh_n h < q ∧ q ≤ mh_n h + 10 then _ else mh_D h q k) = 0
        rw [if_neg (by omega), if_neg (by omega)]
        exact y4
  · refine ⟨by rw [z1]; show s.heap.size ≤ T.heap.size + 1 + 10; rw [hT]; have := hS.1; omega, fun q a1 a2 => ?_, hS.2.2⟩
    rw [mu_old (T.setVm vm₁) (mx_dA X 6) (mx_dA X 0) 10 20 (q := q) (by show q < T.heap.size; rw [hT]; exact Nat.lt_of_lt_of_le a1 hS.1) 10]
    exact (congrArg (fun H9 : Heap => H9[q]?) hTs).trans (hS.2.1 q a1 a2)
end MMUO

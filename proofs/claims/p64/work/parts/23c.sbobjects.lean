section MMSB3
/-! rows for String and StringBuilder objects (gen23c.py) -/
variable {τ : Type} {F G F' : mm_H → Prop} {M : mm_M} {pc pc' : Nat} {L : List (Option Value)} {st : List Value} {h : mm_H} {o : Option τ} {lf : τ → mm_O}
theorem sx_Y1 (h : mm_H) (o : Nat) (f : Nat → Int32) : mh_I (ms_Y h o f) o = f := funext fun j => if_pos rfl
theorem sx_Yo (h : mm_H) (o p : Nat) (f : Nat → Int32) (hp : p ≠ o) : mh_I (ms_Y h o f) p = mh_I h p := funext fun j => if_neg hp
theorem sx_Ix (h : mm_H) (o k : Nat) (v : Int32) : mh_I (ms_I h o k v) o = upd (mh_I h o) k v := mm_up_row _ _ _ _
theorem sx_Io (h : mm_H) (o k p : Nat) (v : Int32) (hp : p ≠ o) : mh_I (ms_I h o k v) p = mh_I h p := funext fun j => if_neg (fun z => hp z.1)
theorem sx_IY (h : mm_H) (o k : Nat) (v : Int32) : ms_I h o k v = ms_Y h o (upd (mh_I h o) k v) := by
  have e : mm_up (mh_I h) o k v = fun p j => if p = o then upd (mh_I h o) k v j else mh_I h p j := by
    funext p j
    by_cases hp : p = o
    · subst hp
      rw [mm_up_row, if_pos rfl]
      rfl
    · rw [if_neg hp]
      exact if_neg (fun z => hp z.1)
  exact Prod.ext rfl (Prod.ext e rfl)
theorem sx_YY (h : mm_H) (o : Nat) (f f' : Nat → Int32) : ms_Y (ms_Y h o f) o f' = ms_Y h o f' := by
  have e : (fun p j => if p = o then f' j else mh_I (ms_Y h o f) p j) = fun p j => if p = o then f' j else mh_I h p j := by
    funext p j
    by_cases hp : p = o
    · rw [if_pos hp, if_pos hp]
    · rw [if_neg hp, if_neg hp, sx_Yo h o p f hp]
  exact Prod.ext rfl (Prod.ext e rfl)
theorem sx_swap (h : mm_H) {o p k j : Nat} {v w : Int32} (hop : o ≠ p) : ms_I (ms_I h o k v) p j w = ms_I (ms_I h p j w) o k v := by
  have e : mm_up (mm_up (mh_I h) o k v) p j w = mm_up (mm_up (mh_I h) p j w) o k v := by
    funext q i
    by_cases hq : q = p
    · subst hq
      show (if q = q ∧ i = j then w else mm_up (mh_I h) o k v q i) = (if q = o ∧ i = k then v else mm_up (mh_I h) q j w q i)
      rw [if_neg (show ¬ (q = o ∧ i = k) from fun z => hop z.1.symm)]
      show (if q = q ∧ i = j then w else if q = o ∧ i = k then v else mh_I h q i) = if q = q ∧ i = j then w else mh_I h q i
      rw [if_neg (show ¬ (q = o ∧ i = k) from fun z => hop z.1.symm)]
    · show (if q = p ∧ i = j then w else mm_up (mh_I h) o k v q i) = (if q = o ∧ i = k then v else if q = p ∧ i = j then w else mh_I h q i)
      rw [if_neg (show ¬ (q = p ∧ i = j) from fun z => hq z.1), if_neg (show ¬ (q = p ∧ i = j) from fun z => hq z.1)]
      rfl
  exact Prod.ext rfl (Prod.ext e rfl)
theorem si_in {k m : Nat} (h : k < m) (hm : k < 2 ^ 31) : vp_in (nI k) m := by
  show ¬ (nI k < 0 ∨ m ≤ (nI k).toNatClampNeg)
  rw [nI_clamp hm]
  intro z
  rcases z with z | z
  · exact nI_pos hm z
  · omega
/-- the letters of a constant String -/
def mm_sT (i : Nat) : Nat → Nat := fun j => (mm_sbs i j).toNatClampNeg
theorem mm_sT14 : sb_Lat (mm_sT 14) 10 (mm_sbs 14) := by unfold sb_Lat; decide +kernel
theorem mm_sT15 : sb_Lat (mm_sT 15) 9 (mm_sbs 15) := by unfold sb_Lat; decide +kernel
theorem mm_sT16 : sb_Lat (mm_sT 16) 7 (mm_sbs 16) := by unfold sb_Lat; decide +kernel
theorem mm_sF {i : Nat} (hi : i < 17) : sb_Fit (mm_sbs i) := by
  have h9 : ∀ i, i < 17 → ∀ v ∈ mm_sbyt.getD i [], fits .byte (.int v) = true := by decide +kernel
  intro j
  show fits .byte (.int ((mm_sbyt.getD i []).getD j 0)) = true
  rw [List.getD_eq_getElem?_getD]
  by_cases hj : j < (mm_sbyt.getD i []).length
  · rw [List.getElem?_eq_getElem hj]
    exact h9 i hi _ (List.getElem_mem hj)
  · rw [List.getElem?_eq_none (by omega)]
    rfl
/-- the coder of a StringBuilder -/
theorem me_putC {idx : Nat} (hk : mm_kk h 352 = (0, 12)) (hn : 352 < mh_n h) (d : decode (my_b M) pc = .ok (.putfield idx, 3)) (hp : pc + 3 = pc') (hf : mm_fk (my_y M).cls idx 12 1) (hF' : F h → F' (ms_I h 352 1 0)) (K : mm_E2 F' G M pc' L st (ms_I h 352 1 0) o lf) : mm_E2 F G M pc L (.int 0 :: .ref 352 :: st) h o lf := by
  subst hp
  refine mm_liftH (st' := st) (h' := ms_I h 352 1 0) hF' rfl rfl (fun X hF hP => mm_Pr_I hn hP) (fun X p l e R s m args below meth c H locs ls cells slots Q hC hP hS hL hF kk => ?_) K
  obtain ⟨hl, hx, hb, hr, hml, hown, hlk, hts, hE, hte, hin0, hRf, hRl⟩ := hC
  obtain ⟨C, T, N, hc, hN, hin, hkN, hw⟩ := hf
  cases hc
  show W p l e R s m args below meth c H locs cells slots Q (F0 m pc ls (.int 0 :: .ref (mx_ad X 352) :: st.map (mx_cv X)))
  rw [mx_ad_lt (o := 352) (Nat.lt_of_lt_of_le hn hP.2.1)]
  have he : (mm_ws X h)[352]? = some (mx_base X + 352, .inr (12, mm_fs X h 352 12)) := by rw [mm_ws_get hn, mm_cell_o hk]
  have hset : (mm_ws X h).set 352 (mx_base X + 352, .inr (12, (mm_fs X h 352 12).set 1 (.int 0))) = mm_ws X (ms_I h 352 1 0) := by
    have hfs : (mm_fs X h 352 12).set 1 (.int 0) = mm_fs X (ms_I h 352 1 0) 352 12 := by
      refine mm_fs_set ?_ (fun j hj => if_neg (fun z => hj z.2)) (fun j _ => rfl)
      show Value.int (mm_up (mh_I h) 352 1 0 352 1) = _
      rw [mm_up_row]
      rfl
    rw [hfs, ← mm_cell_o (X := X) (h := ms_I h 352 1 0) hk]
    exact mm_ws_set hn rfl (fun p hp => mm_ne_I p hp)
  rcases hw with hw | ⟨host, hw⟩
  · exact va_put (ty := .byte) hx hb hts hin tyJ4 tyJ4_ok nmJ4 hown hE.2.2.1 hP.1 (mm_wsD X h) hS 352 he rfl 1 hkN (hts _ hw) (fun _ h9 => h9) rfl (by decide +kernel) rfl rfl (by rw [mm_fs_len, hN]; exact hkN) d (fun H1 locs1 hP1 _ hS1 => kk H1 locs1 (hset ▸ hP1) hS1)
  · exact va_putN (ty := .byte) hx hb hts hin tyJ4 tyJ4_ok nmJ4 hown hE.2.2.1 hP.1 (mm_wsD X h) hS 352 he rfl 1 hkN (va_Nw.use rfl (hE.2.2.2.2.2.2.1 _ hw rfl)) (fun _ h9 => h9) rfl (by decide +kernel) rfl rfl (by rw [mm_fs_len, hN]; exact hkN) d (fun H1 locs1 hP1 _ hS1 => kk H1 locs1 (hset ▸ hP1) hS1)
theorem foJ0_9 : mm_fk1 RJ0 9 13 0 := ⟨RJ0, TJ0, 4, rfl, rfl, inRJ0, by decide, (mm_gw_of (List.mem_of_getElem? (i := 1235) (by decide +kernel)) rfl)⟩
theorem foJ0_15 : mm_fk1 RJ0 15 13 1 := ⟨RJ0, TJ0, 4, rfl, rfl, inRJ0, by decide, (mm_gw_of (List.mem_of_getElem? (i := 1236) (by decide +kernel)) rfl)⟩
theorem pfJ0_0 : ∀ C T N, mm_cl[13]? = some (C, T, N) → (T 0).2.2.2 = true ∧ (T 0).1 = RJ0 ∧ (∃ ty, parseFieldDescriptor (T 0).2.2.1 = some ty ∧ ∀ a, narrow ty (.ref a) = .ref a ∧ fits ty (.ref a) = true) ∧ (∃ ty0 : Nat → FieldType, ∀ k, k < N → parseFieldDescriptor (T k).2.2.1 = some (ty0 k)) ∧ ∀ a, a < N → ∀ b, b < N → a ≠ b → (T a).2.1 ≠ (T b).2.1 := by
  intro C T N h
  cases h
  exact ⟨rfl, rfl, ⟨tyJ0 0, by decide +kernel, fun a => ⟨rfl, rfl⟩⟩, ⟨tyJ0, tyJ0_ok⟩, nmJ0⟩
theorem nkJ4_18 : mm_nk RJ4 18 13 := ⟨RJ0, TJ0, 4, tyJ0, rfl, rfl, inRJ0, tyJ0_ok, by decide +kernel, (mm_gw_of (List.mem_of_getElem? (i := 1193) (by decide +kernel)) rfl), (mm_gw_of (List.mem_of_getElem? (i := 1194) (by decide +kernel)) rfl), (mm_gw_of (List.mem_of_getElem? (i := 42) (by decide +kernel)) rfl)⟩
theorem nkL_34 : mm_nk RL 34 12 := ⟨RJ4, TJ4, 4, tyJ4, rfl, rfl, inRJ4, tyJ4_ok, by decide +kernel, (mm_gw_of (List.mem_of_getElem? (i := 1015) (by decide +kernel)) rfl), (mm_gw_of (List.mem_of_getElem? (i := 1016) (by decide +kernel)) rfl), (mm_gw_of (List.mem_of_getElem? (i := 47) (by decide +kernel)) rfl)⟩
/-- the coder of a String, in its constructor -/
theorem me_putFC {q : Nat} (d : decode (my_b M) pc = .ok (.putfield 15, 3)) (hp : pc + 3 = pc') (hy : (my_y M).cls = RJ0) (hi : (my_y M).name = "<init>") (hk : F h → mm_kk h q = (0, 13)) (hn : F h → q < mh_n h)
    (hF' : F h → F' (ms_I h q 1 0)) (K : mm_E2 F' G M pc' L st (ms_I h q 1 0) o lf) : mm_E2 F G M pc L (.int 0 :: .ref q :: st) h o lf := by
  subst hp
  refine mm_liftH (st' := st) (h' := ms_I h q 1 0) hF' rfl rfl (fun X hF hP => mm_Pr_I (hn hF) hP) (fun X p l e R s m args below meth c H locs ls cells slots Q hC hP hS hL hF kk => ?_) K
  obtain ⟨hl, hx, hb, hr, hml, hown, hlk, hts, hE, hte, hin0, hRf, hRl⟩ := hC
  have hw : Cond.fieldLink (my_y M).cls 15 (TJ0 1).1 (TJ0 1).2.1 (TJ0 1).2.2.1 ∈ mm_gw := by
    rw [hy]
    exact (mm_gw_of (List.mem_of_getElem? (i := 1236) (by decide +kernel)) rfl)
  have ho := hn hF
  have hk := hk hF
  have hlt : q < mm_NN := Nat.lt_of_lt_of_le ho hP.2.1
  show W p l e R s m args below meth c H locs cells slots Q (F0 m pc ls (.int 0 :: .ref (mx_ad X q) :: st.map (mx_cv X)))
  rw [mx_ad_lt hlt]
  have he : (mm_ws X h)[q]? = some (mx_base X + q, .inr (13, mm_fs X h q 13)) := by rw [mm_ws_get ho, mm_cell_o hk]
  have hset : (mm_ws X h).set q (mx_base X + q, .inr (13, (mm_fs X h q 13).set 1 (.int 0))) = mm_ws X (ms_I h q 1 0) := by
    have hfs : (mm_fs X h q 13).set 1 (.int 0) = mm_fs X (ms_I h q 1 0) q 13 := by
      refine mm_fs_set ?_ (fun j hj => if_neg (fun z => hj z.2)) (fun j _ => rfl)
      show Value.int (mm_up (mh_I h) q 1 0 q 1) = _
      rw [mm_up_row]
      rfl
    rw [hfs, ← mm_cell_o (X := X) (h := ms_I h q 1 0) hk]
    exact mm_ws_set ho rfl (fun p hp => mm_ne_I p hp)
  exact va_putF (ty := .byte) hx hb hts inRJ0 tyJ0 tyJ0_ok nmJ0 hown hE.2.2.1 hP.1 (mm_wsD X h) hS q he rfl 1 (by decide) (hts _ hw) (fun _ h9 => h9) rfl (hin0 hi) hy.symm (by decide +kernel) rfl rfl (by rw [mm_fs_len]; decide) d (fun H1 locs1 hP1 _ hS1 => kk H1 locs1 (hset ▸ hP1) hS1)
/-- a cast of an array of bytes -/
theorem me_castB {a n idx : Nat} (d : decode (my_b M) pc = .ok (.checkcast idx, 3)) (hp : pc + 3 = pc') (hw : Cond.classLink (my_y M).cls idx "[B" ∈ mm_gw) (hk : F h → mm_kk h a = (3, n)) (ha : F h → a < mh_n h) (K : mm_E2 F G M pc' L (.ref a :: st) h o lf) : mm_E2 F G M pc L (.ref a :: st) h o lf := by
  subst hp
  refine mm_lift (st' := .ref a :: st) (fun X p l e R s m args below meth c H locs ls cells slots Q hC hP hS hL hF hc hs9 kk => ?_) K
  obtain ⟨hl, hx, hb, hr, hml, hown, hlk, hts, hE, hte, hin0, hRf, hRl⟩ := hC
  have kk' : W p l e R s m args below meth c H locs cells slots Q (F0 m (pc + 3) ls (.ref (mx_ad X a) :: st.map (mx_cv X))) := kk
  show W p l e R s m args below meth c H locs cells slots Q (F0 m pc ls (.ref (mx_ad X a) :: st.map (mx_cv X)))
  rw [mx_ad_lt (Nat.lt_of_lt_of_le (ha hF) hP.2.1)] at kk' ⊢
  have hnm : s.vm.findClass "[B" = some (mx_dA X 2) := by
    have h9 := (hE.2.2.1.2 2 _ rfl).2
    exact h9
  exact va_castA hx hb hown (hts _ hw) hP.1 a (by rw [mm_ws_get (ha hF), mm_cell_3 (hk hF) rfl]) hnm d kk'
theorem sx_arrV (c : ClassId) {n : Nat} {f g : Nat → Value} (h : ∀ j, j < n → f j = g j) : arrV c n f = arrV c n g := by
  have e : (Array.ofFn (n := n) fun j => f j.val) = Array.ofFn (n := n) fun j => g j.val := by
    congr 1
    funext j
    exact h j.val j.isLt
  unfold arrV
  rw [e]
/-- a copy of an array of bytes by clone -/
theorem me_clone {a n idx : Nat} (h0 : 352 ≤ mh_n h) (hlt : mh_n h < mm_NN) (d : decode (my_b M) pc = .ok (.invokevirtual idx, 3)) (hp : pc + 3 = pc') (hlink : Cond.methodLink (my_y M).cls idx ⟨"[B", "clone", "()Ljava/lang/Object;"⟩ ∈ mm_gw) (hk : mm_kk h a = (3, n)) (ha : a < mh_n h) (hfit : sb_Fit (mh_I h a)) (hfr : 1 ≤ my_f M ∧ 60 ≤ my_w M) (hcat : (st.map fun v => v.category).sum ≤ 8)
    (hFK : F h → mh_c h = mh_n h) (hF' : F h → F' (ms_C h a n n)) (K : mm_E2 F' G M pc' L (.ref (mh_n h) :: st) (ms_C h a n n) o lf) : mm_E2 F G M pc L (.ref a :: st) h o lf := by
  subst hp
  intro x hx hF
  obtain ⟨k1, k2, k3⟩ := K x hx (hF' hF)
  have k1' : mh_c h + 1 ≤ mh_c (lf x).2 ∧ mh_w h + n ≤ mh_w (lf x).2 := k1
  refine ⟨⟨by omega, by omega⟩, k2, fun X p l e R s m args below meth c hC k0 w0 g0 g1 g2 g3 g4 H locs ls hP hS hL => ?_⟩
  have hE := hC.2.2.2.2.2.2.2.2.1
  have hlo := mm_low hE hP hS
  have hcn := hFK hF
  refine mm_sz fun hsz => ?_
  have hsize : H.size = mx_base X + mh_n h := by omega
  have hCC := hC
  obtain ⟨hl, hx9, hb, hr, hml, hown, hlk, hts, -, hte, hin0, hRf, hRl⟩ := hC
  have hnm : s.vm.findClass "[B" = some (mx_dA X 2) := (hE.2.2.1.2 2 _ rfl).2
  obtain ⟨c0, t0, f1, f2, f3⟩ := Cond.castable_spec (va_Nw.use (A := args) rfl (hE.2.2.2.2.2.2.1 (.castable "[B" "java/lang/Cloneable") (List.mem_of_getElem? (i := 1077) (by decide +kernel)) rfl))
  cases hnm.symm.trans f1
  have hca : mm_cell X h a = .inl (mx_dA X 2, n, .inl (mh_I h a)) := mm_cell_3 hk rfl
  have hcell : H[mx_base X + a]? = some (vp_cell (mx_dA X 2) (n, .inl (mh_I h a))) := by
    have h9 := hP.1 a _ (mm_ws_get ha)
    rw [hca] at h9
    exact h9
  intro T hT X9
  have hcellT : T.heap[mx_base X + a]? = some (vp_cell (mx_dA X 2) (n, .inl (mh_I h a))) := by rw [hT]; exact hcell
  obtain ⟨-, kA, hkA, comp, hkind⟩ := State.isArrayOf_alike X9.warmed.alike ((hE.2.2.1.2 2 _ rfl).1 0 (fun _ => .null))
  obtain ⟨-, kS, hkS, compS, hkindS⟩ := (hE.2.2.1.2 2 _ rfl).1 0 (fun _ => .null)
  have hcats := mx_cats X st
  obtain ⟨vm', X', stp⟩ := X9.cloneArray hx9 hown (hts _ hlink) (hts _ (mm_gw_of (List.mem_of_getElem? (i := 1073) (by decide +kernel)) rfl)) (hts _ (mm_gw_of (List.mem_of_getElem? (i := 1074) (by decide +kernel)) rfl)) (hts _ (mm_gw_of (List.mem_of_getElem? (i := 1075) (by decide +kernel)) rfl)) (hts _ (mm_gw_of (List.mem_of_getElem? (i := 1076) (by decide +kernel)) rfl)) (a := mx_base X + a) (cell := vp_cell (mx_dA X 2) (n, .inl (mh_I h a))) hcellT (fun k h => by cases h) (fun h => by cases h) hnm f2 f3
    (fun i v hv => by
      have hk' : T.vm.classes[mx_dA X 2]? = some kA := hkA
      have h9 : fits .byte v = true := va_fit (fun i _ => hfit i) i v hv
      show T.fitsSlot (mx_dA X 2) .none i v = true
      simpa [State.fitsSlot, State.slotType?, hk', hkind] using h9)
    (g := F0 m pc ls (.ref (mx_base X + a) :: st.map (mx_cv X))) rfl (by rw [hml]; exact hL.1) (rest := st.map (mx_cv X)) rfl (by rw [hb]; exact d) (by omega) (by show 2 * 0 + _ + 14 ≤ _; rw [hcats]; omega) (by omega) (by rw [show (vp_cell (mx_dA X 2) (n, .inl (mh_I h a))).slots.size = n from arrV_size _ _ _]; omega) (hloader := Vm.clonesLoader_of_array hkS hkindS)
  rw [show (vp_cell (mx_dA X 2) (n, .inl (mh_I h a))).slots.size = n from arrV_size _ _ _] at X'
  generalize hH1 : H.push (vp_cell (mx_dA X 2) (n, .inl (mh_I h a))) = H1
  have z1 : H1.size = H.size + 1 := by rw [← hH1, Array.size_push]
  have e1 : H1[H.size]? = some (vp_cell (mx_dA X 2) (n, .inl (mh_I h a))) := by rw [← hH1, Array.getElem?_push_size]
  have o1 : ∀ q : Nat, q < H.size → H1[q]? = H[q]? := fun q hq => by rw [← hH1, Array.getElem?_push, if_neg (Nat.ne_of_lt hq)]
  have hold : ∀ p, p ≠ mh_n h → mm_cell X (ms_C h a n n) p = mm_cell X h p := fun p hp => (mm_ne_Y p hp).trans (mm_cell_Nx (mm_Nx_K h n 3 n) hp)
  have hat : va_at (mx_G X) mm_cl (mx_base X + mh_n h, mm_cell X (ms_C h a n n) (mh_n h)) H1 := by
    have hk9 : mm_kk (ms_C h a n n) (mh_n h) = (3, n) := mm_kk_K (N := n) h0
    rw [mm_cell_3 hk9 rfl, ← hsize]
    show H1[H.size]? = some (vp_cell (mx_dA X 2) (n, .inl (mh_I (ms_C h a n n) (mh_n h))))
    rw [e1]
    show some (arrV (mx_dA X 2) n (fun j => Value.int (mh_I h a j))) = some (arrV (mx_dA X 2) n (fun j => Value.int (mh_I (ms_C h a n n) (mh_n h) j)))
    refine congrArg some (sx_arrV (mx_dA X 2) (fun j hj => ?_))
    show Value.int (mh_I h a j) = .int (mh_I (ms_C h a n n) (mh_n h) j)
    rw [show mh_I (ms_C h a n n) (mh_n h) j = va_cpy (mh_I h a) (mh_I h (mh_n h)) 0 0 n j from if_pos rfl, sb_cpy0 hj]
  have hP1 : mm_P X (ms_C h a n n) H1 := by
    refine ⟨?_, ?_⟩
    · rw [show mm_ws X (ms_C h a n n) = mm_ws X h ++ [(mx_base X + mh_n h, mm_cell X (ms_C h a n n) (mh_n h))] from (mm_ws_push (h := h) (h' := ms_C h a n n) rfl (fun p hp => hold p (Nat.ne_of_lt hp))).symm]
      refine va_P.app (hP.1.kept (fun k q hk => o1 _ (hP.1 k q hk).lt)) (fun k q hk => ?_)
      have hz9 : k < 1 := (List.getElem?_eq_some_iff.mp hk).1
      rw [show k = 0 by omega] at hk
      cases hk
      exact hat
    · obtain ⟨p1, p2, p3⟩ := hP.2
      have q1 : mh_n (ms_C h a n n) = mh_n h + 1 := rfl
      have b0 : ∀ o : Nat, mh_n h + 1 ≤ o → ∀ k, mh_I (ms_C h a n n) o k = mh_I h o k := fun o ho k => if_neg (by omega)
      have b4 : ∀ o : Nat, mh_n h + 1 ≤ o → ∀ k, mh_D (ms_C h a n n) o k = mh_D h o k := fun o ho k => if_neg (by omega)
      refine ⟨hlt, ?_, fun o ho9 ho8 k => ?_⟩
      · exact ⟨(b0 mm_NN hlt 0).trans p2.1, fun j hj => (b0 mm_NN hlt (j + 1)).trans (p2.2 j hj)⟩
      · have ho7 : mh_n h + 1 ≤ o := ho9
        rw [b0 o ho7 k]
        obtain ⟨y1, y2, y3, y4⟩ := p3 o (Nat.le_of_succ_le ho9) ho8 k
        refine ⟨y1, y2, y3, ?_⟩
        exact (b4 o ho7 k).trans y4
  have z := k3 X p l e R s m args below meth c hCC k0 w0 g0 (by show k0 ≤ mh_c h + 1; omega) (by show w0 ≤ mh_w h + n; omega) g3 g4 H1 locs ls hP1 ⟨Nat.le_trans hS.1 (by omega), fun q a1 a2 => (o1 q (Nat.lt_of_lt_of_le a1 hS.1)).trans (hS.2.1 q a1 a2), hS.2.2⟩ hL
  have e2 : mh_c (ms_C h a n n) - k0 = mh_c h - k0 + 1 := by show mh_c h + 1 - k0 = _; omega
  have e3 : mh_w (ms_C h a n n) - w0 = mh_w h - w0 + n := by show mh_w h + n - w0 = _; omega
  rw [e2, e3] at z
  obtain ⟨tt, a1, b1⟩ := z ((T.setVm vm').pushCell (vp_cell (mx_dA X 2) (n, .inl (mh_I h a)))) (by rw [← hH1, ← hT]; rfl) X'
  have e9 : (Value.ref (mx_ad X (mh_n h))) = .ref H.size := by rw [mx_ad_lt hlt, hsize]
  have a2 : Steps p.tables e below (((T.setVm vm').pushCell (vp_cell (mx_dA X 2) (n, .inl (mh_I h a)))).setTop (F0 m (pc + 3) ls (.ref (mx_ad X (mh_n h)) :: st.map (mx_cv X)))) tt := a1
  rw [e9, ← hT] at a2
  refine ⟨tt, ?_, b1⟩
  show Steps p.tables e below (T.setTop (F0 m pc ls (.ref (mx_ad X a) :: st.map (mx_cv X)))) tt
  rw [mx_ad_lt (Nat.lt_of_lt_of_le ha hP.2.1)]
  exact stp tt a2
end MMSB3

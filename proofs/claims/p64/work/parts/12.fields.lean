section MMF
/-! fields and arrays of the small machine -/
variable {τ : Type} {F G : mm_H → Prop} {M : mm_M} {pc pc' : Nat} {L : List (Option Value)} {st : List Value} {h : mm_H} {o : Option τ} {lf : τ → mm_O}
theorem mm_cell_o {X : mm_X} {q ci : Nat} (hk : mm_kk h q = (0, ci)) : mm_cell X h q = .inr (ci, mm_fs X h q ci) := by simp [mm_cell, hk]
theorem mm_cell_1 {X : mm_X} {q n t : Nat} (hk : mm_kk h q = (t, n)) (ht : t % 10 = 1) : mm_cell X h q = .inl (mx_dA X 0, n, .inl (mh_I h q)) := by simp [mm_cell, hk, ht]
theorem mm_cell_3 {X : mm_X} {q n t : Nat} (hk : mm_kk h q = (t, n)) (ht : t % 10 = 3) : mm_cell X h q = .inl (mx_dA X 2, n, .inl (mh_I h q)) := by simp [mm_cell, hk, ht]
theorem mm_cell_6 {X : mm_X} {q n t : Nat} (hk : mm_kk h q = (t, n)) (ht : t % 10 = 6) : mm_cell X h q = .inl (mx_dA X 5, n, .inr (.inr (.inr (.inr (fun j => (mh_R h q j).map (mx_ad X)))))) := by simp [mm_cell, hk, ht]
theorem mm_cell_7 {X : mm_X} {q n t : Nat} (hk : mm_kk h q = (t, n)) (ht : t % 10 = 7) : mm_cell X h q = .inl (mx_dA X 6, n, .inr (.inr (.inr (.inr (fun j => (mh_R h q j).map (mx_ad X)))))) := by simp [mm_cell, hk, ht]
theorem mm_fs_get {X : mm_X} {q ci k : Nat} (hk : k < mm_Nl.getD ci 0) : (mm_fs X h q ci)[k]? = some (if mm_ft ci k = true then va_rf ((mh_R h q k).map (mx_ad X)) else .int (mh_I h q k)) := by
  simp only [mm_fs, List.getElem?_map]
  rw [List.getElem?_range hk]
  rfl
theorem mm_fs_len {X : mm_X} {q ci : Nat} : (mm_fs X h q ci).length = mm_Nl.getD ci 0 := by simp [mm_fs]
theorem mm_fs_set {X : mm_X} {h' : mm_H} {q ci k : Nat} {v : Value} (hv : (if mm_ft ci k = true then va_rf ((mh_R h' q k).map (mx_ad X)) else .int (mh_I h' q k)) = v) (hI : ∀ j, j ≠ k → mh_I h' q j = mh_I h q j) (hR : ∀ j, j ≠ k → mh_R h' q j = mh_R h q j) :
    (mm_fs X h q ci).set k v = mm_fs X h' q ci := by
  apply List.ext_getElem?
  intro j
  by_cases hl : j < mm_Nl.getD ci 0
  · by_cases hj : j = k
    · subst hj
      rw [List.getElem?_set_self (by rw [mm_fs_len]; exact hl), mm_fs_get hl, hv]
    · rw [List.getElem?_set_ne (Ne.symm hj), mm_fs_get hl, mm_fs_get hl, hI j hj, hR j hj]
  · rw [List.getElem?_eq_none (by rw [List.length_set, mm_fs_len]; omega), List.getElem?_eq_none (by rw [mm_fs_len]; omega)]
/-- a read -/
theorem me_get {q ci k idx : Nat} {v : Value} (d : decode (my_b M) pc = .ok (.getfield idx, 3)) (hp : pc + 3 = pc') (hf : mm_fk (my_y M).cls idx ci k) (hk : F h → mm_kk h q = (0, ci)) (hn : F h → q < mh_n h)
    (hv : ∀ X : mm_X, F h → mh_n h ≤ mm_NN → (if mm_ft ci k = true then va_rf ((mh_R h q k).map (mx_ad X)) else .int (mh_I h q k)) = mx_cv X v) (K : mm_E2 F G M pc' L (v :: st) h o lf) : mm_E2 F G M pc L (.ref q :: st) h o lf := by
  subst hp
  refine mm_lift (st' := v :: st) (fun X p l e R s m args below meth c H locs ls cells slots Q hC hP hS hL hF _ _ kk => ?_) K
  obtain ⟨hl, hx, hb, hr, hml, hown, hlk, hts, hE, hte, hin0, hRf, hRl⟩ := hC
  obtain ⟨C, T, N, hc, hN, hin, hkN, hw⟩ := hf
  have ho := hn hF
  have hk := hk hF
  have hlt : q < mm_NN := Nat.lt_of_lt_of_le ho hP.2.1
  show W p l e R s m args below meth c H locs cells slots Q (F0 m pc ls (.ref (mx_ad X q) :: st.map (mx_cv X)))
  rw [mx_ad_lt hlt]
  have he : (mm_ws X h)[q]? = some (mx_base X + q, .inr (ci, mm_fs X h q ci)) := by rw [mm_ws_get ho, mm_cell_o hk]
  have hv2 : (mm_fs X h q ci)[k]? = some (mx_cv X v) := by rw [mm_fs_get (by rw [hN]; exact hkN), hv X hF hP.2.1]
  rcases hw with hw | ⟨host, hw⟩
  · exact va_get hx hb hts hin hown hE.2.2.1 hP.1 q he hc k hkN (hts _ hw) (fun _ h9 => h9) hv2 d kk
  · exact va_getN hx hb hts hin hown hE.2.2.1 hP.1 q he hc k hkN (va_Nw.use rfl (hE.2.2.2.2.2.2.1 _ hw rfl)) (fun _ h9 => h9) hv2 d kk
theorem me_getI {q ci k idx : Nat} (d : decode (my_b M) pc = .ok (.getfield idx, 3)) (hp : pc + 3 = pc') (hf : mm_fk (my_y M).cls idx ci k) (hk : F h → mm_kk h q = (0, ci)) (hn : F h → q < mh_n h) (ht : mm_ft ci k = false) (K : mm_E2 F G M pc' L (.int (mh_I h q k) :: st) h o lf) : mm_E2 F G M pc L (.ref q :: st) h o lf :=
  me_get d hp hf hk hn (fun X _ _ => by rw [ht]; rfl) K
theorem me_getR {q ci k idx q' : Nat} (d : decode (my_b M) pc = .ok (.getfield idx, 3)) (hp : pc + 3 = pc') (hf : mm_fk (my_y M).cls idx ci k) (hk : F h → mm_kk h q = (0, ci)) (hn : F h → q < mh_n h) (ht : mm_ft ci k = true) (hr : F h → mh_R h q k = some q') (K : mm_E2 F G M pc' L (.ref q' :: st) h o lf) : mm_E2 F G M pc L (.ref q :: st) h o lf :=
  me_get d hp hf hk hn (fun X hF _ => by rw [ht, if_pos rfl, hr hF]; rfl) K
/-- a step that changes the objects -/
theorem mm_liftH {F' : mm_H → Prop} {h' : mm_H} {st' : List Value} (hF' : F h → F' h') (hc : mh_c h' = mh_c h) (hw : mh_w h' = mh_w h) (hPr : ∀ X, F h → mm_Pr X h → mm_Pr X h')
    (stp : ∀ (X : mm_X) (p : Program) (l : Launch) (e : Env) (R : Room) (s : State) (m : MethodId) (args : Array Value) (below : List Frame) (meth : Method) (c : Code) (H : Heap) (locs : List Loc) (ls : Array Slot) (cells slots : Nat) (Q : State → Prop), mm_CX M X p l R s m args meth c → mm_P X h H → va_S (mm_A X) s.heap H locs → mm_LH X ls (my_L M) L → F h →
      (∀ H1 locs1, va_P (mx_G X) mm_cl (mm_ws X h') H1 → va_S (mm_A X) s.heap H1 locs1 → W p l e R s m args below meth c H1 locs1 cells slots Q (F0 m pc' ls (st'.map (mx_cv X)))) → W p l e R s m args below meth c H locs cells slots Q (F0 m pc ls (st.map (mx_cv X))))
    (k : mm_E2 F' G M pc' L st' h' o lf) : mm_E2 F G M pc L st h o lf := by
  intro x hx hF
  obtain ⟨k1, k2, k3⟩ := k x hx (hF' hF)
  refine ⟨⟨by rw [← hc]; exact k1.1, by rw [← hw]; exact k1.2⟩, k2, fun X p l e R s m args below meth c hC k0 w0 h0 h1 h2 h3 h4 H locs ls hP hS hL => ?_⟩
  refine stp X p l e R s m args below meth c H locs ls _ _ _ hC hP hS hL hF fun H1 locs1 hP1 hS1 => ?_
  have z := k3 X p l e R s m args below meth c hC k0 w0 h0 (by rw [hc]; exact h1) (by rw [hw]; exact h2) h3 h4 H1 locs1 ls ⟨hP1, hPr X hF hP.2⟩ hS1 hL
  rw [hc, hw] at z
  exact z
theorem mm_Pr_I {X : mm_X} {q k : Nat} {v : Int32} (hq : q < mh_n h) (hP : mm_Pr X h) : mm_Pr X (ms_I h q k v) := by
  obtain ⟨h1, ⟨h2, h3⟩, h4⟩ := hP
  have hne : ∀ p j, mh_n h ≤ p → mh_I (ms_I h q k v) p j = mh_I h p j := fun p j hp => if_neg (fun z => by omega)
  exact ⟨h1, ⟨by rw [hne _ _ h1]; exact h2, fun j hj => by rw [hne _ _ h1]; exact h3 j hj⟩, fun p hp hp2 j => by rw [hne _ _ hp]; exact h4 p hp hp2 j⟩
theorem mm_Pr_R {X : mm_X} {q k : Nat} {v : Option Nat} (hq : q < mh_n h) (hP : mm_Pr X h) : mm_Pr X (ms_R h q k v) := by
  obtain ⟨h1, h2, h4⟩ := hP
  have hne : ∀ p j, mh_n h ≤ p → mh_R (ms_R h q k v) p j = mh_R h p j := fun p j hp => if_neg (fun z => by omega)
  exact ⟨h1, h2, fun p hp hp2 j => by rw [hne _ _ hp]; exact h4 p hp hp2 j⟩
theorem mm_Pr_J {X : mm_X} {q k : Nat} {v : Int64} (hq : q < mh_n h) (hP : mm_Pr X h) : mm_Pr X (ms_J h q k v) := by
  obtain ⟨h1, h2, h4⟩ := hP
  have hne : ∀ p j, mh_n h ≤ p → mh_J (ms_J h q k v) p j = mh_J h p j := fun p j hp => if_neg (fun z => by omega)
  exact ⟨h1, h2, fun p hp hp2 j => by rw [hne _ _ hp]; exact h4 p hp hp2 j⟩
theorem mm_Pr_D {X : mm_X} {q k : Nat} {v : Nat} (hq : q < mh_n h) (hP : mm_Pr X h) : mm_Pr X (ms_D h q k v) := by
  obtain ⟨h1, h2, h4⟩ := hP
  have hne : ∀ p j, mh_n h ≤ p → mh_D (ms_D h q k v) p j = mh_D h p j := fun p j hp => if_neg (fun z => by omega)
  exact ⟨h1, h2, fun p hp hp2 j => by rw [hne _ _ hp]; exact h4 p hp hp2 j⟩
theorem mm_Pr_Y {X : mm_X} {q : Nat} {f : Nat → Int32} (hq : q < mh_n h) (hP : mm_Pr X h) : mm_Pr X (ms_Y h q f) := by
  obtain ⟨h1, ⟨h2, h3⟩, h4⟩ := hP
  have hne : ∀ p j, mh_n h ≤ p → mh_I (ms_Y h q f) p j = mh_I h p j := fun p j hp => if_neg (fun z => by omega)
  exact ⟨h1, ⟨by rw [hne _ _ h1]; exact h2, fun j hj => by rw [hne _ _ h1]; exact h3 j hj⟩, fun p hp hp2 j => by rw [hne _ _ hp]; exact h4 p hp hp2 j⟩
/-- cells of other objects stay -/
theorem mm_cell_ne {X : mm_X} {h' : mm_H} {p : Nat} (hI : mh_I h' p = mh_I h p) (hR : mh_R h' p = mh_R h p) (hJ : mh_J h' p = mh_J h p) (hD : mh_D h' p = mh_D h p) : mm_cell X h' p = mm_cell X h p := by
  unfold mm_cell mm_fs mm_kk
  rw [hI, hR, hJ, hD]
theorem mm_ne_I {X : mm_X} {q k : Nat} {v : Int32} (p : Nat) (hp : p ≠ q) : mm_cell X (ms_I h q k v) p = mm_cell X h p := mm_cell_ne (funext fun j => if_neg (fun z => hp z.1)) rfl rfl rfl
theorem mm_ne_R {X : mm_X} {q k : Nat} {v : Option Nat} (p : Nat) (hp : p ≠ q) : mm_cell X (ms_R h q k v) p = mm_cell X h p := mm_cell_ne rfl (funext fun j => if_neg (fun z => hp z.1)) rfl rfl
theorem mm_ne_J {X : mm_X} {q k : Nat} {v : Int64} (p : Nat) (hp : p ≠ q) : mm_cell X (ms_J h q k v) p = mm_cell X h p := mm_cell_ne rfl rfl (funext fun j => if_neg (fun z => hp z.1)) rfl
theorem mm_ne_D {X : mm_X} {q k : Nat} {v : Nat} (p : Nat) (hp : p ≠ q) : mm_cell X (ms_D h q k v) p = mm_cell X h p := mm_cell_ne rfl rfl rfl (funext fun j => if_neg (fun z => hp z.1))
theorem mm_ne_Y {X : mm_X} {q : Nat} {f : Nat → Int32} (p : Nat) (hp : p ≠ q) : mm_cell X (ms_Y h q f) p = mm_cell X h p := mm_cell_ne (funext fun j => if_neg hp) rfl rfl rfl
theorem mm_up_row {α : Type} (f : Nat → Nat → α) (q k : Nat) (v : α) : mm_up f q k v q = fun j => if j = k then v else f q j := by
  funext j
  by_cases hj : j = k <;> simp [mm_up, hj]
/-- a whole number into a field -/
theorem me_putI {F' : mm_H → Prop} {q ci k idx : Nat} {v : Int32} (d : decode (my_b M) pc = .ok (.putfield idx, 3)) (hp : pc + 3 = pc') (hf : mm_fk (my_y M).cls idx ci k) (hk : F h → mm_kk h q = (0, ci)) (hn : F h → q < mh_n h) (ht : mm_ft ci k = false)
    (hg : ∀ C T N, mm_cl[ci]? = some (C, T, N) → (T k).2.2.2 = false ∧ (T k).2.2.1 = "I" ∧ (∃ ty0 : Nat → FieldType, ∀ k, k < N → parseFieldDescriptor (T k).2.2.1 = some (ty0 k)) ∧ ∀ a, a < N → ∀ b, b < N → a ≠ b → (T a).2.1 ≠ (T b).2.1)
    (hF' : F h → F' (ms_I h q k v)) (K : mm_E2 F' G M pc' L st (ms_I h q k v) o lf) : mm_E2 F G M pc L (.int v :: .ref q :: st) h o lf := by
  subst hp
  refine mm_liftH (st' := st) (h' := ms_I h q k v) hF' rfl rfl (fun X hF hP => mm_Pr_I (hn hF) hP) (fun X p l e R s m args below meth c H locs ls cells slots Q hC hP hS hL hF kk => ?_) K
  obtain ⟨hl, hx, hb, hr, hml, hown, hlk, hts, hE, hte, hin0, hRf, hRl⟩ := hC
  obtain ⟨C, T, N, hc, hN, hin, hkN, hw⟩ := hf
  obtain ⟨hg1, hg2, ⟨ty0, hty⟩, hnm⟩ := hg C T N hc
  have ho := hn hF
  have hk := hk hF
  have hlt : q < mm_NN := Nat.lt_of_lt_of_le ho hP.2.1
  show W p l e R s m args below meth c H locs cells slots Q (F0 m pc ls (.int v :: .ref (mx_ad X q) :: st.map (mx_cv X)))
  rw [mx_ad_lt hlt]
  have he : (mm_ws X h)[q]? = some (mx_base X + q, .inr (ci, mm_fs X h q ci)) := by rw [mm_ws_get ho, mm_cell_o hk]
  have hset : (mm_ws X h).set q (mx_base X + q, .inr (ci, (mm_fs X h q ci).set k (.int v))) = mm_ws X (ms_I h q k v) := by
    rw [mm_fs_set (h' := ms_I h q k v) (X := X) (by rw [ht]; show (Value.int (mm_up (mh_I h) q k v q k)) = _; rw [mm_up_row]; simp) (fun j hj => if_neg (fun z => hj z.2)) (fun j _ => rfl), ← mm_cell_o (X := X) (h := ms_I h q k v) hk]
    exact mm_ws_set ho rfl (fun p hp => mm_ne_I p hp)
  rcases hw with hw | ⟨host, hw⟩
  · exact va_put (ty := .int) hx hb hts hin ty0 hty hnm hown hE.2.2.1 hP.1 (mm_wsD X h) hS q he hc k hkN (hts _ hw) (fun _ h9 => h9) hg1 (by rw [hg2]; decide +kernel) rfl rfl (by rw [mm_fs_len, hN]; exact hkN) d (fun H1 locs1 hP1 _ hS1 => kk H1 locs1 (hset ▸ hP1) hS1)
  · exact va_putN (ty := .int) hx hb hts hin ty0 hty hnm hown hE.2.2.1 hP.1 (mm_wsD X h) hS q he hc k hkN (va_Nw.use rfl (hE.2.2.2.2.2.2.1 _ hw rfl)) (fun _ h9 => h9) hg1 (by rw [hg2]; decide +kernel) rfl rfl (by rw [mm_fs_len, hN]; exact hkN) d (fun H1 locs1 hP1 _ hS1 => kk H1 locs1 (hset ▸ hP1) hS1)
/-- bounds -/
def mm_ib (i : Int32) (n : Nat) : Prop := 0 ≤ i ∧ i < nI n
theorem mm_ib_in {i : Int32} {n : Nat} (h : vp_in i n) : vp_in i n := h
theorem me_iald {q n : Nat} {i : Int32} (d : decode (my_b M) pc = .ok (.iaload, 1)) (hp : pc + 1 = pc') {t : Nat} (hk : F h → mm_kk h q = (t, n)) (hn : F h → q < mh_n h) (hi : vp_in i n) (K : mm_E2 F G M pc' L (.int (mh_I h q i.toNatClampNeg) :: st) h o lf) (ht : t % 10 = 1 := by decide) : mm_E2 F G M pc L (.int i :: .ref q :: st) h o lf := by
  subst hp
  refine mm_lift (st' := .int (mh_I h q i.toNatClampNeg) :: st) (fun X p l e R s m args below meth c H locs ls cells slots Q hC hP hS hL hF _ _ kk => ?_) K
  have ho := hn hF
  have hk := hk hF
  show W p l e R s m args below meth c H locs cells slots Q (F0 m pc ls (.int i :: .ref (mx_ad X q) :: st.map (mx_cv X)))
  rw [mx_ad_lt (Nat.lt_of_lt_of_le ho hP.2.1)]
  exact va_iald hC.2.1 hC.2.2.1 hC.2.2.2.2.2.2.2.2.1.2.2.1 hP.1 q 0 (by rw [mm_ws_get ho, mm_cell_1 hk ht]) rfl hi d kk
theorem me_bald {q n : Nat} {i : Int32} (d : decode (my_b M) pc = .ok (.baload, 1)) (hp : pc + 1 = pc') {t : Nat} (hk : F h → mm_kk h q = (t, n)) (hn : F h → q < mh_n h) (hi : vp_in i n) (K : mm_E2 F G M pc' L (.int (mh_I h q i.toNatClampNeg) :: st) h o lf) (ht : t % 10 = 3 := by decide) : mm_E2 F G M pc L (.int i :: .ref q :: st) h o lf := by
  subst hp
  refine mm_lift (st' := .int (mh_I h q i.toNatClampNeg) :: st) (fun X p l e R s m args below meth c H locs ls cells slots Q hC hP hS hL hF _ _ kk => ?_) K
  have ho := hn hF
  have hk := hk hF
  show W p l e R s m args below meth c H locs cells slots Q (F0 m pc ls (.int i :: .ref (mx_ad X q) :: st.map (mx_cv X)))
  rw [mx_ad_lt (Nat.lt_of_lt_of_le ho hP.2.1)]
  exact va_bald hC.2.1 hC.2.2.1 hC.2.2.2.2.2.2.2.2.1.2.2.1 hP.1 q 2 (by rw [mm_ws_get ho, mm_cell_3 hk ht]) rfl hi d kk
theorem me_aald {q n q' : Nat} {i : Int32} (d : decode (my_b M) pc = .ok (.aaload, 1)) (hp : pc + 1 = pc') {t : Nat} (hk : F h → mm_kk h q = (t, n)) (hn : F h → q < mh_n h) (hi : vp_in i n) (hr : F h → mh_R h q i.toNatClampNeg = some q') (K : mm_E2 F G M pc' L (.ref q' :: st) h o lf) (ht : t % 10 = 6 := by decide) : mm_E2 F G M pc L (.int i :: .ref q :: st) h o lf := by
  subst hp
  refine mm_lift (st' := .ref q' :: st) (fun X p l e R s m args below meth c H locs ls cells slots Q hC hP hS hL hF _ _ kk => ?_) K
  have ho := hn hF
  have hk := hk hF
  show W p l e R s m args below meth c H locs cells slots Q (F0 m pc ls (.int i :: .ref (mx_ad X q) :: st.map (mx_cv X)))
  rw [mx_ad_lt (Nat.lt_of_lt_of_le ho hP.2.1)]
  refine va_aldq hC.2.1 hC.2.2.1 hC.2.2.2.2.2.2.2.2.1.2.2.1 hP.1 q 5 (by rw [mm_ws_get ho, mm_cell_6 hk ht]) rfl hi d ?_
  have e1 : va_rf ((mh_R h q i.toNatClampNeg).map (mx_ad X)) = mx_cv X (.ref q') := by rw [hr hF]; rfl
  rw [e1]
  exact kk
theorem me_alen {q t n : Nat} {v : Int32} (d : decode (my_b M) pc = .ok (.arraylength, 1)) (hp : pc + 1 = pc') (hk : F h → mm_kk h q = (t, n)) (hn : F h → q < mh_n h) (hv : Int32.ofNat n = v) (K : mm_E2 F G M pc' L (.int v :: st) h o lf) (ht : t % 10 = 1 ∨ t % 10 = 3 ∨ t % 10 = 6 ∨ t % 10 = 7 := by decide) : mm_E2 F G M pc L (.ref q :: st) h o lf := by
  subst hp
  refine mm_lift (st' := .int v :: st) (fun X p l e R s m args below meth c H locs ls cells slots Q hC hP hS hL hF _ _ kk => ?_) K
  have ho := hn hF
  have hk := hk hF
  show W p l e R s m args below meth c H locs cells slots Q (F0 m pc ls (.ref (mx_ad X q) :: st.map (mx_cv X)))
  rw [mx_ad_lt (Nat.lt_of_lt_of_le ho hP.2.1)]
  have hK := hC.2.2.2.2.2.2.2.2.1.2.2.1
  rcases ht with e | e | e | e
  · exact va_alen hC.2.1 hC.2.2.1 hK hP.1 q 0 (by rw [mm_ws_get ho, mm_cell_1 hk e]) rfl hv d kk
  · exact va_alen hC.2.1 hC.2.2.1 hK hP.1 q 2 (by rw [mm_ws_get ho, mm_cell_3 hk e]) rfl hv d kk
  · exact va_alen hC.2.1 hC.2.2.1 hK hP.1 q 5 (by rw [mm_ws_get ho, mm_cell_6 hk e]) rfl hv d kk
  · exact va_alen hC.2.1 hC.2.2.1 hK hP.1 q 6 (by rw [mm_ws_get ho, mm_cell_7 hk e]) rfl hv d kk
/-- a row of an array of int arrays -/
theorem me_aaldA {q n q' : Nat} {i : Int32} (d : decode (my_b M) pc = .ok (.aaload, 1)) (hp : pc + 1 = pc') (hk : F h → mm_kk h q = (7, n)) (hn : F h → q < mh_n h) (hi : vp_in i n) (hr : F h → mh_R h q i.toNatClampNeg = some q') (K : mm_E2 F G M pc' L (.ref q' :: st) h o lf) : mm_E2 F G M pc L (.int i :: .ref q :: st) h o lf := by
  subst hp
  refine mm_lift (st' := .ref q' :: st) (fun X p l e R s m args below meth c H locs ls cells slots Q hC hP hS hL hF _ _ kk => ?_) K
  have ho := hn hF
  have hk := hk hF
  have hlt : i.toNatClampNeg < n := Nat.not_le.mp fun q => hi (Or.inr q)
  have hK := hC.2.2.2.2.2.2.2.2.1.2.2.1
  have hat := hP.1 q _ (by rw [mm_ws_get ho, mm_cell_7 hk rfl])
  show W p l e R s m args below meth c H locs cells slots Q (F0 m pc ls (.int i :: .ref (mx_ad X q) :: st.map (mx_cv X)))
  rw [mx_ad_lt (Nat.lt_of_lt_of_le ho hP.2.1)]
  have e1 : va_rf ((mh_R h q i.toNatClampNeg).map (mx_ad X)) = mx_cv X (.ref q') := by rw [hr hF]; rfl
  refine W.aald (v := va_rf ((mh_R h q i.toNatClampNeg).map (mx_ad X))) (ty := .array .int) hC.2.1 hC.2.2.1 hat ((hK.2 6 _ rfl).1 n (fun j => va_rf ((mh_R h q j).map (mx_ad X)))) rfl (fun q => by cases q) (by show ¬ (i < 0 ∨ (arrV _ _ _).slots.size ≤ _); rw [arrV_size]; exact hi) (by show (arrV _ _ _).slots[_]? = _; rw [arrV_read _ _ hlt]) rfl rfl d ?_
  rw [e1]
  exact kk
theorem mm_upd_row (f : Nat → Nat → Int32) (q k : Nat) (v : Int32) : upd (f q) k v = mm_up f q k v q := by
  funext j
  rw [mm_up_row]
  rfl
theorem me_iast {F' : mm_H → Prop} {q n : Nat} {i v : Int32} (d : decode (my_b M) pc = .ok (.iastore, 1)) (hp : pc + 1 = pc') {t : Nat} (hk : F h → mm_kk h q = (t, n)) (hn : F h → q < mh_n h) (hi : vp_in i n) (hF' : F h → F' (ms_I h q i.toNatClampNeg v)) (K : mm_E2 F' G M pc' L st (ms_I h q i.toNatClampNeg v) o lf) (ht : t % 10 = 1 := by decide) : mm_E2 F G M pc L (.int v :: .int i :: .ref q :: st) h o lf := by
  subst hp
  refine mm_liftH (st' := st) hF' rfl rfl (fun X hF hP => mm_Pr_I (hn hF) hP) (fun X p l e R s m args below meth c H locs ls cells slots Q hC hP hS hL hF kk => ?_) K
  have ho := hn hF
  have hk := hk hF
  show W p l e R s m args below meth c H locs cells slots Q (F0 m pc ls (.int v :: .int i :: .ref (mx_ad X q) :: st.map (mx_cv X)))
  rw [mx_ad_lt (Nat.lt_of_lt_of_le ho hP.2.1)]
  have hset : (mm_ws X h).set q (mx_base X + q, .inl (mx_dA X 0, n, .inl (upd (mh_I h q) i.toNatClampNeg v))) = mm_ws X (ms_I h q i.toNatClampNeg v) := by
    rw [mm_upd_row]
    have e1 := mm_cell_1 (X := X) (h := ms_I h q i.toNatClampNeg v) hk ht
    rw [show (Sum.inl (mx_dA X 0, n, .inl (mm_up (mh_I h) q i.toNatClampNeg v q)) : va_E) = mm_cell X (ms_I h q i.toNatClampNeg v) q from e1.symm]
    exact mm_ws_set ho rfl (fun p hp => mm_ne_I p hp)
  exact va_iast hC.2.1 hC.2.2.1 hC.2.2.2.2.2.2.2.2.1.2.2.1 hP.1 (mm_wsD X h) hS q 0 (by rw [mm_ws_get ho, mm_cell_1 hk ht]) rfl hi d (fun H1 locs1 hP1 _ hS1 => kk H1 locs1 (hset ▸ hP1) hS1)
theorem me_bast {F' : mm_H → Prop} {q n : Nat} {i v w : Int32} (d : decode (my_b M) pc = .ok (.bastore, 1)) (hp : pc + 1 = pc') {t : Nat} (hk : F h → mm_kk h q = (t, n)) (hn : F h → q < mh_n h) (hi : vp_in i n) (hv : vp_nar .byte v = w) (hF' : F h → F' (ms_I h q i.toNatClampNeg w)) (K : mm_E2 F' G M pc' L st (ms_I h q i.toNatClampNeg w) o lf) (ht : t % 10 = 3 := by decide) : mm_E2 F G M pc L (.int v :: .int i :: .ref q :: st) h o lf := by
  subst hp
  subst hv
  refine mm_liftH (st' := st) hF' rfl rfl (fun X hF hP => mm_Pr_I (hn hF) hP) (fun X p l e R s m args below meth c H locs ls cells slots Q hC hP hS hL hF kk => ?_) K
  have ho := hn hF
  have hk := hk hF
  show W p l e R s m args below meth c H locs cells slots Q (F0 m pc ls (.int v :: .int i :: .ref (mx_ad X q) :: st.map (mx_cv X)))
  rw [mx_ad_lt (Nat.lt_of_lt_of_le ho hP.2.1)]
  have hset : (mm_ws X h).set q (mx_base X + q, .inl (mx_dA X 2, n, .inl (upd (mh_I h q) i.toNatClampNeg (vp_nar .byte v)))) = mm_ws X (ms_I h q i.toNatClampNeg (vp_nar .byte v)) := by
    rw [mm_upd_row]
    have e1 := mm_cell_3 (X := X) (h := ms_I h q i.toNatClampNeg (vp_nar .byte v)) hk ht
    rw [show (Sum.inl (mx_dA X 2, n, .inl (mm_up (mh_I h) q i.toNatClampNeg (vp_nar .byte v) q)) : va_E) = mm_cell X (ms_I h q i.toNatClampNeg (vp_nar .byte v)) q from e1.symm]
    exact mm_ws_set ho rfl (fun p hp => mm_ne_I p hp)
  exact va_bast hC.2.1 hC.2.2.1 hC.2.2.2.2.2.2.2.2.1.2.2.1 hP.1 (mm_wsD X h) hS q 2 (by rw [mm_ws_get ho, mm_cell_3 hk ht]) rfl hi d (fun H1 locs1 hP1 _ hS1 => kk H1 locs1 (hset ▸ hP1) hS1)
end MMF

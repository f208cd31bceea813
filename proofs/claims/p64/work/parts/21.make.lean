section MMN
/-! making of objects and arrays (gen21.py) -/
variable {τ : Type} {F G F' : mm_H → Prop} {M : mm_M} {pc pc' : Nat} {L : List (Option Value)} {st : List Value} {h : mm_H} {o : Option τ} {lf : τ → mm_O}
def mm_nk (own : String) (idx ci : Nat) : Prop := ∃ (C : String) (T : u_T) (N : Nat) (ty : Nat → FieldType), mm_cl[ci]? = some (C, T, N) ∧ mm_Nl.getD ci 0 = N ∧ (∀ w ∈ u_ws C T N, w ∈ mm_gw) ∧ (∀ k, k < N → parseFieldDescriptor (T k).2.2.1 = some (ty k)) ∧ (∀ k, k < N → defaultValue (ty k) = if mm_ft ci k = true then .null else .int 0) ∧
  Cond.classLink own idx C ∈ mm_gw ∧ Cond.instantiable C N ∈ mm_gw ∧ Cond.initialized C ∈ mm_gw
theorem mm_low {X : mm_X} {s : State} {H : Heap} {locs : List Loc} (hE : mm_E X s s.heap) (hP : mm_P X h H) (hS : va_S (mm_A X) s.heap H locs) : mx_base X + mh_n h ≤ H.size := by
  rcases Nat.eq_zero_or_pos (mh_n h) with h0 | h0
  · rw [h0]
    exact Nat.le_trans hE.1.2.2 hS.1
  · have h1 := (hP.1 (mh_n h - 1) _ (mm_ws_get (by omega))).lt
    dsimp only at h1
    omega
/-- h' has one object more, of N slots -/
def mm_Nx (h h' : mm_H) (N : Nat) : Prop := h'.1 = (mh_n h + 1, mh_c h + 1, mh_w h + N) ∧ mh_I h' = mh_I h ∧ mh_R h' = mh_R h ∧ mh_J h' = mh_J h ∧ ∀ p, p ≠ mh_n h → mh_D h' p = mh_D h p
theorem mm_Nx_N (h : mm_H) (N : Nat) : mm_Nx h (ms_N h N) N := ⟨rfl, rfl, rfl, rfl, fun _ _ => rfl⟩
theorem mm_Nx_K (h : mm_H) (N t a : Nat) : mm_Nx h (ms_K h N t a) N := ⟨rfl, rfl, rfl, rfl, fun p hp => by
  funext j
  exact if_neg hp⟩
theorem mm_kk_N {h : mm_H} {N o t n : Nat} (hk : mm_kd o = (t, n)) (ht : ¬ t = 9 := by decide) : mm_kk (ms_N h N) o = (t, n) := mm_ks (F := fun _ => True) hk ht trivial
theorem mm_kk_K {h : mm_H} {N t a : Nat} (hn : 352 ≤ mh_n h) : mm_kk (ms_K h N t a) (mh_n h) = (t, a) := by
  unfold mm_kk
  rw [if_neg (by omega)]
  show ((if mh_n h = mh_n h then (if 0 = 0 then t else if 0 = 1 then a else 0) else mh_D h (mh_n h) 0), (if mh_n h = mh_n h then (if 1 = 0 then t else if 1 = 1 then a else 0) else mh_D h (mh_n h) 1)) = (t, a)
  simp
theorem mm_cell_Nx {X : mm_X} {h h' : mm_H} {N p : Nat} (hh : mm_Nx h h' N) (hp : p ≠ mh_n h) : mm_cell X h' p = mm_cell X h p := by
  obtain ⟨h1, h2, h3, h4, h5⟩ := hh
  unfold mm_cell mm_fs mm_kk
  rw [h2, h3, h4, h5 p hp]
/-- a step that makes one object more, at the next number -/
theorem mm_liftN {N : Nat} {h' : mm_H} {st' : List Value} (hh : mm_Nx h h' N) (hFK : F h → mh_c h = mh_n h) (hlt : mh_n h < mm_NN) (hF' : F h → F' h')
    (stp : ∀ (X : mm_X) (p : Program) (l : Launch) (e : Env) (R : Room) (s : State) (m : MethodId) (args : Array Value) (below : List Frame) (meth : Method) (c : Code) (H : Heap) (locs : List Loc) (ls : Array Slot) (cells slots : Nat) (Q : State → Prop), mm_CX M X p l R s m args meth c → mm_P X h H → va_S (mm_A X) s.heap H locs → mm_LH X ls (my_L M) L → H.size = mx_base X + mh_n h → cells + 1 ≤ R.cells → slots + N ≤ R.slots →
      (∀ H1, va_at (mx_G X) mm_cl (mx_base X + mh_n h, mm_cell X h' (mh_n h)) H1 → H1.size = H.size + 1 → (∀ q, q < H.size → H1[q]? = H[q]?) → W p l e R s m args below meth c H1 locs (cells + 1) (slots + N) Q (F0 m pc' ls (st'.map (mx_cv X)))) → W p l e R s m args below meth c H locs cells slots Q (F0 m pc ls (st.map (mx_cv X))))
    (k : mm_E2 F' G M pc' L st' h' o lf) : mm_E2 F G M pc L st h o lf := by
  intro x hx hF
  obtain ⟨k1, k2, k3⟩ := k x hx (hF' hF)
  have q1 : mh_n h' = mh_n h + 1 := congrArg (·.1) hh.1
  have q2 : mh_c h' = mh_c h + 1 := congrArg (·.2.1) hh.1
  have q3 : mh_w h' = mh_w h + N := congrArg (·.2.2) hh.1
  have k1' : mh_c h + 1 ≤ mh_c (lf x).2 ∧ mh_w h + N ≤ mh_w (lf x).2 := ⟨by rw [← q2]; exact k1.1, by rw [← q3]; exact k1.2⟩
  refine ⟨⟨by omega, by omega⟩, k2, fun X p l e R s m args below meth c hC k0 w0 h0 h1 h2 h3 h4 H locs ls hP hS hL => ?_⟩
  have hE := hC.2.2.2.2.2.2.2.2.1
  have hlo := mm_low hE hP hS
  have hcn := hFK hF
  refine mm_sz fun hsz => ?_
  have hsize : H.size = mx_base X + mh_n h := by omega
  refine stp X p l e R s m args below meth c H locs ls _ _ _ hC hP hS hL hsize (by omega) (by omega) fun H1 hat hz ho => ?_
  have hP1 : mm_P X h' H1 := by
    refine ⟨?_, ?_⟩
    · rw [show mm_ws X h' = mm_ws X h ++ [(mx_base X + mh_n h, mm_cell X h' (mh_n h))] from (mm_ws_push (h := h) (h' := h') q1 (fun p hp => mm_cell_Nx hh (Nat.ne_of_lt hp))).symm]
      refine va_P.app (hP.1.kept (fun k q hk => ho _ (hP.1 k q hk).lt)) (fun k q hk => ?_)
      have hz9 : k < 1 := (List.getElem?_eq_some_iff.mp hk).1
      rw [show k = 0 by omega] at hk
      cases hk
      exact hat
    · obtain ⟨p1, p2, p3⟩ := hP.2
      obtain ⟨g1, g2, g3, g4, g5⟩ := hh
      refine ⟨by rw [q1]; exact hlt, by rw [g2]; exact p2, fun o ho9 ho8 k => ?_⟩
      rw [q1] at ho9
      rw [g2, g3, g4, g5 o (by omega)]
      exact p3 o (Nat.le_of_succ_le ho9) ho8 k
  have z := k3 X p l e R s m args below meth c hC k0 w0 h0 (by omega) (by omega) h3 h4 H1 locs ls hP1 ⟨Nat.le_trans hS.1 (by omega), fun q a1 a2 => (ho q (Nat.lt_of_lt_of_le a1 hS.1)).trans (hS.2.1 q a1 a2), hS.2.2⟩ hL
  have e1 : mh_c h' - k0 = mh_c h - k0 + 1 := by omega
  have e2 : mh_w h' - w0 = mh_w h - w0 + N := by omega
  rw [e1, e2] at z
  exact z
theorem me_newG {ci idx N : Nat} {h' : mm_H} (hh : mm_Nx h h' N) (hkk : mm_kk h' (mh_n h) = (0, ci)) (hlt : mh_n h < mm_NN) (d : decode (my_b M) pc = .ok (.new idx, 3)) (hp : pc + 3 = pc') (hf : mm_nk (my_y M).cls idx ci) (hN : mm_Nl.getD ci 0 = N) (hFK : F h → mh_c h = mh_n h) (hF' : F h → F' h') (K : mm_E2 F' G M pc' L (.ref (mh_n h) :: st) h' o lf) : mm_E2 F G M pc L st h o lf := by
  subst hp
  subst hN
  refine mm_liftN (st' := .ref (mh_n h) :: st) hh hFK hlt hF' (fun X p l e R s m args below meth c H locs ls cells slots Q hC hP hS hL hsize hc1 hs1 kk => ?_) K
  obtain ⟨hl, hx, hb, hr, hml, hown, hlk, hts, hE, hte, hin0, hRf, hRl⟩ := hC
  obtain ⟨C, T, N, ty, hc, hN, hin, hty, hdf, w1, w2, w3⟩ := hf
  have hKn := hE.2.2.1.1 ci _ hc
  rw [hN] at hs1 kk
  refine W.newcK hx hb hown (hts _ w1) (hts _ w2) (hts _ w3) rfl d hc1 hs1 hKn.2.1 rfl fun H1 kC hkC e1 z1 o1 => ?_
  have hat : va_at (mx_G X) mm_cl (mx_base X + mh_n h, mm_cell X h' (mh_n h)) H1 := by
    rw [mm_cell_o hkk, ← hsize]
    refine ⟨_, hc, (u_born ty hts hin hKn hkC e1 hty).to (fun j hj => ?_)⟩
    rw [hdf j hj]
    show _ = (mm_fs X h' (mh_n h) ci).getD j .null
    rw [List.getD_eq_getElem?_getD, mm_fs_get (by rw [hN]; exact hj)]
    obtain ⟨z1, z2, -, -⟩ := hP.2.2.2 (mh_n h) (Nat.le_refl _) hlt j
    rw [hh.2.1, hh.2.2.1, z1, z2]
    rfl
  have kk2 := kk H1 hat z1 o1
  have e9 : (Value.ref (mx_ad X (mh_n h))) = .ref H.size := by rw [mx_ad_lt hlt, hsize]
  have kk3 : W p l e R s m args below meth c H1 locs (cells + 1) (slots + N) Q (F0 m (pc + 3) ls (.ref (mx_ad X (mh_n h)) :: st.map (mx_cv X))) := kk2
  rw [e9] at kk3
  exact kk3
theorem mm_NN352 {a : Nat} (h : a < 352) : a < mm_NN := Nat.lt_of_lt_of_le h (by decide)
theorem me_new {ci idx N : Nat} (d : decode (my_b M) pc = .ok (.new idx, 3)) (hp : pc + 3 = pc') (hf : mm_nk (my_y M).cls idx ci) (hN : mm_Nl.getD ci 0 = N) (hk : mm_kd (mh_n h) = (0, ci)) (hFK : F h → mh_c h = mh_n h) (hF' : F h → F' (ms_N h N)) (K : mm_E2 F' G M pc' L (.ref (mh_n h) :: st) (ms_N h N) o lf) : mm_E2 F G M pc L st h o lf :=
  me_newG (mm_Nx_N h N) (mm_kk_N hk) (mm_NN352 (mm_kd_lt hk (by decide))) d hp hf hN hFK hF' K
/-- an object from 352 on -/
theorem me_newK {ci idx N : Nat} (h0 : 352 ≤ mh_n h) (hlt : mh_n h < mm_NN) (d : decode (my_b M) pc = .ok (.new idx, 3)) (hp : pc + 3 = pc') (hf : mm_nk (my_y M).cls idx ci) (hN : mm_Nl.getD ci 0 = N) (hFK : F h → mh_c h = mh_n h) (hF' : F h → F' (ms_K h N 0 ci)) (K : mm_E2 F' G M pc' L (.ref (mh_n h) :: st) (ms_K h N 0 ci) o lf) : mm_E2 F G M pc L st h o lf :=
  me_newG (mm_Nx_K h N 0 ci) (mm_kk_K h0) hlt d hp hf hN hFK hF' K
theorem wa_I : Cond.arrayClass (newarray.typeOf .int) ∈ mm_gw := (mm_gw_of (List.mem_of_getElem? (i := 149) (by decide +kernel)) rfl)
theorem me_newaIG {t N : Nat} {n : Int32} {h' : mm_H} (hh : mm_Nx h h' N) (hkk : mm_kk h' (mh_n h) = (t, N)) (hlt : mh_n h < mm_NN) (d : decode (my_b M) pc = .ok (.newarray .int, 2)) (hp : pc + 2 = pc') (hn : ¬ n < 0) (hN : n.toNatClampNeg = N) (hbig : N ≤ 60000) (hFK : F h → mh_c h = mh_n h) (hF' : F h → F' h') (K : mm_E2 F' G M pc' L (.ref (mh_n h) :: st) h' o lf) (ht : t % 10 = 1 := by decide) : mm_E2 F G M pc L (.int n :: st) h o lf := by
  subst hp
  refine mm_liftN (st' := .ref (mh_n h) :: st) hh hFK hlt hF' (fun X p l e R s m args below meth c H locs ls cells slots Q hC hP hS hL hsize hc1 hs1 kk => ?_) K
  obtain ⟨hl, hx, hb, hr, hml, hown, hlk, hts, hE, hte, hin0, hRf, hRl⟩ := hC
  have hby : N * componentBytes .int ≤ 536870912 := by
    have h8 : componentBytes .int ≤ 8 := by decide
    have h9 := Nat.mul_le_mul hbig h8
    omega
  refine va_newaK hx hb (hts _ wa_I) rfl d rfl hn hN hby hc1 hs1 rfl fun H1 cA e1 z1 o1 hAr hNm => ?_
  have hcA : cA = mx_dA X 0 := by
    have h9 := (hE.2.2.1.2 0 _ rfl).2
    exact Option.some.inj (hNm.symm.trans h9)
  have hat : va_at (mx_G X) mm_cl (mx_base X + mh_n h, mm_cell X h' (mh_n h)) H1 := by
    rw [mm_cell_1 hkk ht, ← hsize, ← hcA, hh.2.1]
    show H1[H.size]? = some (vp_cell cA (N, .inl (mh_I h (mh_n h))))
    rw [e1]
    have hz : mh_I h (mh_n h) = fun _ => 0 := by
      funext j
      obtain ⟨z1, z2, z3, z4⟩ := hP.2.2.2 (mh_n h) (Nat.le_refl _) hlt j
      exact z1
    rw [hz]
    rfl
  have e9 : (Value.ref (mx_ad X (mh_n h))) = .ref H.size := by rw [mx_ad_lt hlt, hsize]
  have kk3 : W p l e R s m args below meth c H1 locs (cells + 1) (slots + N) Q (F0 m (pc + 2) ls (.ref (mx_ad X (mh_n h)) :: st.map (mx_cv X))) := kk H1 hat z1 o1
  rw [e9] at kk3
  exact kk3
theorem me_newaI {t N : Nat} {n : Int32} (d : decode (my_b M) pc = .ok (.newarray .int, 2)) (hp : pc + 2 = pc') (hk : mm_kd (mh_n h) = (t, N)) (hn : ¬ n < 0) (hN : n.toNatClampNeg = N) (hbig : N ≤ 60000) (hFK : F h → mh_c h = mh_n h) (hF' : F h → F' (ms_N h N)) (K : mm_E2 F' G M pc' L (.ref (mh_n h) :: st) (ms_N h N) o lf) (ht : t % 10 = 1 := by decide) (h9 : ¬ t = 9 := by decide) : mm_E2 F G M pc L (.int n :: st) h o lf :=
  me_newaIG (mm_Nx_N h N) (mm_kk_N hk h9) (mm_NN352 (mm_kd_lt hk h9)) d hp hn hN hbig hFK hF' K ht
theorem me_newaIK {N : Nat} {n : Int32} (h0 : 352 ≤ mh_n h) (hlt : mh_n h < mm_NN) (d : decode (my_b M) pc = .ok (.newarray .int, 2)) (hp : pc + 2 = pc') (hn : ¬ n < 0) (hN : n.toNatClampNeg = N) (hbig : N ≤ 60000) (hFK : F h → mh_c h = mh_n h) (hF' : F h → F' (ms_K h N 1 N)) (K : mm_E2 F' G M pc' L (.ref (mh_n h) :: st) (ms_K h N 1 N) o lf) : mm_E2 F G M pc L (.int n :: st) h o lf :=
  me_newaIG (mm_Nx_K h N 1 N) (mm_kk_K h0) hlt d hp hn hN hbig hFK hF' K rfl
theorem wa_B : Cond.arrayClass (newarray.typeOf .byte) ∈ mm_gw := (mm_gw_of (List.mem_of_getElem? (i := 86) (by decide +kernel)) rfl)
theorem me_newaBG {t N : Nat} {n : Int32} {h' : mm_H} (hh : mm_Nx h h' N) (hkk : mm_kk h' (mh_n h) = (t, N)) (hlt : mh_n h < mm_NN) (d : decode (my_b M) pc = .ok (.newarray .byte, 2)) (hp : pc + 2 = pc') (hn : ¬ n < 0) (hN : n.toNatClampNeg = N) (hbig : N ≤ 60000) (hFK : F h → mh_c h = mh_n h) (hF' : F h → F' h') (K : mm_E2 F' G M pc' L (.ref (mh_n h) :: st) h' o lf) (ht : t % 10 = 3 := by decide) : mm_E2 F G M pc L (.int n :: st) h o lf := by
  subst hp
  refine mm_liftN (st' := .ref (mh_n h) :: st) hh hFK hlt hF' (fun X p l e R s m args below meth c H locs ls cells slots Q hC hP hS hL hsize hc1 hs1 kk => ?_) K
  obtain ⟨hl, hx, hb, hr, hml, hown, hlk, hts, hE, hte, hin0, hRf, hRl⟩ := hC
  have hby : N * componentBytes .byte ≤ 536870912 := by
    have h8 : componentBytes .byte ≤ 8 := by decide
    have h9 := Nat.mul_le_mul hbig h8
    omega
  refine va_newaK hx hb (hts _ wa_B) rfl d rfl hn hN hby hc1 hs1 rfl fun H1 cA e1 z1 o1 hAr hNm => ?_
  have hcA : cA = mx_dA X 2 := by
    have h9 := (hE.2.2.1.2 2 _ rfl).2
    exact Option.some.inj (hNm.symm.trans h9)
  have hat : va_at (mx_G X) mm_cl (mx_base X + mh_n h, mm_cell X h' (mh_n h)) H1 := by
    rw [mm_cell_3 hkk ht, ← hsize, ← hcA, hh.2.1]
    show H1[H.size]? = some (vp_cell cA (N, .inl (mh_I h (mh_n h))))
    rw [e1]
    have hz : mh_I h (mh_n h) = fun _ => 0 := by
      funext j
      obtain ⟨z1, z2, z3, z4⟩ := hP.2.2.2 (mh_n h) (Nat.le_refl _) hlt j
      exact z1
    rw [hz]
    rfl
  have e9 : (Value.ref (mx_ad X (mh_n h))) = .ref H.size := by rw [mx_ad_lt hlt, hsize]
  have kk3 : W p l e R s m args below meth c H1 locs (cells + 1) (slots + N) Q (F0 m (pc + 2) ls (.ref (mx_ad X (mh_n h)) :: st.map (mx_cv X))) := kk H1 hat z1 o1
  rw [e9] at kk3
  exact kk3
theorem me_newaB {t N : Nat} {n : Int32} (d : decode (my_b M) pc = .ok (.newarray .byte, 2)) (hp : pc + 2 = pc') (hk : mm_kd (mh_n h) = (t, N)) (hn : ¬ n < 0) (hN : n.toNatClampNeg = N) (hbig : N ≤ 60000) (hFK : F h → mh_c h = mh_n h) (hF' : F h → F' (ms_N h N)) (K : mm_E2 F' G M pc' L (.ref (mh_n h) :: st) (ms_N h N) o lf) (ht : t % 10 = 3 := by decide) (h9 : ¬ t = 9 := by decide) : mm_E2 F G M pc L (.int n :: st) h o lf :=
  me_newaBG (mm_Nx_N h N) (mm_kk_N hk h9) (mm_NN352 (mm_kd_lt hk h9)) d hp hn hN hbig hFK hF' K ht
theorem me_newaBK {N : Nat} {n : Int32} (h0 : 352 ≤ mh_n h) (hlt : mh_n h < mm_NN) (d : decode (my_b M) pc = .ok (.newarray .byte, 2)) (hp : pc + 2 = pc') (hn : ¬ n < 0) (hN : n.toNatClampNeg = N) (hbig : N ≤ 60000) (hFK : F h → mh_c h = mh_n h) (hF' : F h → F' (ms_K h N 3 N)) (K : mm_E2 F' G M pc' L (.ref (mh_n h) :: st) (ms_K h N 3 N) o lf) : mm_E2 F G M pc L (.int n :: st) h o lf :=
  me_newaBG (mm_Nx_K h N 3 N) (mm_kk_K h0) hlt d hp hn hN hbig hFK hF' K rfl
theorem me_anew {N idx : Nat} {n : Int32} (d : decode (my_b M) pc = .ok (.anewarray idx, 3)) (hp : pc + 3 = pc') (hw : Cond.classLink (my_y M).cls idx "BatchWarehouse$Stock" ∈ mm_gw) (hk : mm_kd (mh_n h) = (6, N)) (hn : ¬ n < 0) (hN : n.toNatClampNeg = N) (hbig : N ≤ 60000) (hFK : F h → mh_c h = mh_n h) (hF' : F h → F' (ms_N h N)) (K : mm_E2 F' G M pc' L (.ref (mh_n h) :: st) (ms_N h N) o lf) : mm_E2 F G M pc L (.int n :: st) h o lf := by
  subst hp
  subst hN
  have hlt := mm_NN352 (mm_kd_lt hk (by decide))
  refine mm_liftN (st' := .ref (mh_n h) :: st) (mm_Nx_N h _) hFK hlt hF' (fun X p l e R s m args below meth c H locs ls cells slots Q hC hP hS hL hsize hc1 hs1 kk => ?_) K
  obtain ⟨hl, hx, hb, hr, hml, hown, hlk, hts, hE, hte, hin0, hRf, hRl⟩ := hC
  refine W.anew hx hb hown (hts _ hw) (va_AO.use hE.2.2.2.2.2.2.2.1) rfl d rfl hn (by omega) hc1 hs1 fun cA kA comp f1 f2 f3 f4 => ?_
  have hcA : cA = mx_dA X 5 := by
    obtain ⟨kA', comp', g1, g2, g3, g4⟩ := (hE.2.2.1.2 5 _ rfl).2
    exact Option.some.inj (f1.symm.trans g4)
  generalize hH1 : H.push ({ cls := cA, slots := Array.replicate n.toNatClampNeg .null, vm := .none } : Cell) = H1
  have z1 : H1.size = H.size + 1 := by rw [← hH1, Array.size_push]
  have e1 : H1[H.size]? = some (arrV cA n.toNatClampNeg (fun _ => .null)) := by rw [← hH1, Array.getElem?_push_size, ← arrV_new]
  have o1 : ∀ q : Nat, q < H.size → H1[q]? = H[q]? := fun q hq => by rw [← hH1, Array.getElem?_push, if_neg (Nat.ne_of_lt hq)]
  have hat : va_at (mx_G X) mm_cl (mx_base X + mh_n h, mm_cell X (ms_N h n.toNatClampNeg) (mh_n h)) H1 := by
    rw [mm_cell_6 (mm_kk_N hk) (by decide), ← hsize, ← hcA]
    show H1[H.size]? = some (vp_cell cA (n.toNatClampNeg, .inr (.inr (.inr (.inr (fun j => (mh_R h (mh_n h) j).map (mx_ad X)))))))
    rw [e1, vp_cell_q]
    have hz : (fun j => va_rf ((mh_R h (mh_n h) j).map (mx_ad X))) = fun _ => Value.null := by
      funext j
      obtain ⟨z1, z2, z3, z4⟩ := hP.2.2.2 (mh_n h) (Nat.le_refl _) hlt j
      rw [z2]
      rfl
    rw [hz]
  have e9 : (Value.ref (mx_ad X (mh_n h))) = .ref H.size := by rw [mx_ad_lt hlt, hsize]
  have kk3 : W p l e R s m args below meth c H1 locs (cells + 1) (slots + n.toNatClampNeg) Q (F0 m (pc + 3) ls (.ref (mx_ad X (mh_n h)) :: st.map (mx_cv X))) := kk H1 hat z1 o1
  rw [e9] at kk3
  exact kk3
def mm_fk1 (own : String) (idx ci k : Nat) : Prop := ∃ (C : String) (T : u_T) (N : Nat), mm_cl[ci]? = some (C, T, N) ∧ mm_Nl.getD ci 0 = N ∧ (∀ w ∈ u_ws C T N, w ∈ mm_gw) ∧ k < N ∧ Cond.fieldLink own idx (T k).1 (T k).2.1 (T k).2.2.1 ∈ mm_gw
/-- a reference into a final field, in a constructor -/
theorem me_putF {q ci k idx q' : Nat} (d : decode (my_b M) pc = .ok (.putfield idx, 3)) (hp : pc + 3 = pc') (hf : mm_fk1 (my_y M).cls idx ci k) (hk : F h → mm_kk h q = (0, ci)) (hn : F h → q < mh_n h) (ht : mm_ft ci k = true) (hi : (my_y M).name = "<init>")
    (hg : ∀ C T N, mm_cl[ci]? = some (C, T, N) → (T k).2.2.2 = true ∧ (T k).1 = (my_y M).cls ∧ (∃ ty, parseFieldDescriptor (T k).2.2.1 = some ty ∧ ∀ a, narrow ty (.ref a) = .ref a ∧ fits ty (.ref a) = true) ∧ (∃ ty0 : Nat → FieldType, ∀ k, k < N → parseFieldDescriptor (T k).2.2.1 = some (ty0 k)) ∧ ∀ a, a < N → ∀ b, b < N → a ≠ b → (T a).2.1 ≠ (T b).2.1)
    (hF' : F h → F' (ms_R h q k (some q'))) (K : mm_E2 F' G M pc' L st (ms_R h q k (some q')) o lf) : mm_E2 F G M pc L (.ref q' :: .ref q :: st) h o lf := by
  subst hp
  refine mm_liftH (st' := st) (h' := ms_R h q k (some q')) hF' rfl rfl (fun X hF hP => mm_Pr_R (hn hF) hP) (fun X p l e R s m args below meth c H locs ls cells slots Q hC hP hS hL hF kk => ?_) K
  obtain ⟨hl, hx, hb, hr, hml, hown, hlk, hts, hE, hte, hin0, hRf, hRl⟩ := hC
  obtain ⟨C, T, N, hc, hN, hin, hkN, hw⟩ := hf
  obtain ⟨hg1, hg2, ⟨ty, hg3, hg4⟩, ⟨ty0, hty⟩, hnm⟩ := hg C T N hc
  have ho := hn hF
  have hk := hk hF
  have hlt : q < mm_NN := Nat.lt_of_lt_of_le ho hP.2.1
  show W p l e R s m args below meth c H locs cells slots Q (F0 m pc ls (.ref (mx_ad X q') :: .ref (mx_ad X q) :: st.map (mx_cv X)))
  rw [mx_ad_lt hlt]
  have he : (mm_ws X h)[q]? = some (mx_base X + q, .inr (ci, mm_fs X h q ci)) := by rw [mm_ws_get ho, mm_cell_o hk]
  have hset : (mm_ws X h).set q (mx_base X + q, .inr (ci, (mm_fs X h q ci).set k (.ref (mx_ad X q')))) = mm_ws X (ms_R h q k (some q')) := by
    have hfs : (mm_fs X h q ci).set k (.ref (mx_ad X q')) = mm_fs X (ms_R h q k (some q')) q ci := by
      refine mm_fs_set ?_ (fun j _ => rfl) (fun j hj => if_neg (fun z => hj z.2))
      rw [ht, if_pos rfl]
      show va_rf ((mm_up (mh_R h) q k (some q') q k).map (mx_ad X)) = _
      rw [show mm_up (mh_R h) q k (some q') q k = some q' from if_pos ⟨rfl, rfl⟩]
      rfl
    rw [hfs, ← mm_cell_o (X := X) (h := ms_R h q k (some q')) hk]
    exact mm_ws_set ho rfl (fun p hp => mm_ne_R p hp)
  exact va_putF (ty := ty) hx hb hts hin ty0 hty hnm hown hE.2.2.1 hP.1 (mm_wsD X h) hS q he hc k hkN (hts _ hw) (fun _ h9 => h9) hg1 (hin0 hi) hg2 hg3 (hg4 _).1 (hg4 _).2 (by rw [mm_fs_len, hN]; exact hkN) d (fun H1 locs1 hP1 _ hS1 => kk H1 locs1 (hset ▸ hP1) hS1)
theorem me_aast {q q' n : Nat} {i : Int32} (d : decode (my_b M) pc = .ok (.aastore, 1)) (hp : pc + 1 = pc') (hk : F h → mm_kk h q = (6, n)) (hk' : F h → mm_kk h q' = (0, 7)) (hn : F h → q < mh_n h) (hn' : F h → q' < mh_n h) (hi : vp_in i n) (hF' : F h → F' (ms_R h q i.toNatClampNeg (some q'))) (K : mm_E2 F' G M pc' L st (ms_R h q i.toNatClampNeg (some q')) o lf) : mm_E2 F G M pc L (.ref q' :: .int i :: .ref q :: st) h o lf := by
  subst hp
  refine mm_liftH (st' := st) hF' rfl rfl (fun X hF hP => mm_Pr_R (hn hF) hP) (fun X p l e R s m args below meth c H locs ls cells slots Q hC hP hS hL hF kk => ?_) K
  have ho := hn hF
  have hk := hk hF
  have ho' := hn' hF
  have hk' := hk' hF
  show W p l e R s m args below meth c H locs cells slots Q (F0 m pc ls (.ref (mx_ad X q') :: .int i :: .ref (mx_ad X q) :: st.map (mx_cv X)))
  have hset : (mm_ws X h).set q (mx_base X + q, .inl (mx_dA X 5, n, .inr (.inr (.inr (.inr (va_up (fun j => (mh_R h q j).map (mx_ad X)) i.toNatClampNeg (some (mx_ad X q')))))))) = mm_ws X (ms_R h q i.toNatClampNeg (some q')) := by
    have e1 := mm_cell_6 (X := X) (h := ms_R h q i.toNatClampNeg (some q')) hk (by decide)
    have e2 : va_up (fun j => (mh_R h q j).map (mx_ad X)) i.toNatClampNeg (some (mx_ad X q')) = fun j => (mh_R (ms_R h q i.toNatClampNeg (some q')) q j).map (mx_ad X) := by
      funext j
      show _ = (mm_up (mh_R h) q i.toNatClampNeg (some q') q j).map (mx_ad X)
      rw [mm_up_row]
      by_cases hj : j = i.toNatClampNeg
      · simp [va_up, hj]
      · simp [va_up, hj]
    rw [e2, ← e1]
    exact mm_ws_set ho rfl (fun p hp => mm_ne_R p hp)
  rw [mx_ad_lt (Nat.lt_of_lt_of_le ho hP.2.1), mx_ad_lt (o := q') (Nat.lt_of_lt_of_le ho' hP.2.1)]
  rw [mx_ad_lt (o := q') (Nat.lt_of_lt_of_le ho' hP.2.1)] at hset
  have hre : (mm_ws X h)[q']? = some (mx_base X + q', .inr (7, mm_fs X h q' 7)) := by rw [mm_ws_get ho', mm_cell_o hk']
  exact va_astq hC.2.1 hC.2.2.1 hC.2.2.2.2.2.2.2.2.1.2.2.1 hP.1 (mm_wsD X h) hS q 5 q' 7 (r := (RX7, TX7, 18)) (by rw [mm_ws_get ho, mm_cell_6 hk (by decide)]) rfl hre rfl hi d (fun H1 locs1 hP1 _ hS1 => kk H1 locs1 (hset ▸ hP1) hS1)
theorem mm_sw {c : Prop} {_ : Decidable c} (hc : c → F' h) (K : c → mm_E2 F' G M pc L st h o lf) : mm_E2 F G M pc L st h (if c then o else none) lf := by
  intro x hx
  by_cases h9 : c
  · rw [if_pos h9] at hx
    intro _
    exact K h9 x hx (hc h9)
  · rw [if_neg h9] at hx
    cases hx
/-- while objects are made: as many as cells -/
def mm_K (h : mm_H) : Prop := mh_c h = mh_n h
theorem mm_K_N {N : Nat} (hk : mm_K h) : mm_K (ms_N h N) := congrArg (· + 1) hk
def mm_chk (N t : Nat) (h : mm_H) : Bool := decide (mh_n h = N) && (List.range 352).all (fun o => (List.range 24).all (fun k => match mm_R0 t o k with | none => true | some q => mh_R h o k == some q))
end MMN

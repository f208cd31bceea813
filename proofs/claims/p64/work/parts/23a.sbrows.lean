section MMSB1
/-! what the walk of StringBuilder stands on: calls up and to super, bytes copied, statics, stores into its fields -/
variable {τ : Type} {F G F' G' F'' : mm_H → Prop} {M N : mm_M} {pc pc' : Nat} {L : List (Option Value)} {st : List Value} {h : mm_H} {o : Option τ} {lf : τ → mm_O}
theorem mm_selP {C : String} {x : MethodName} {s : State} {args : Array Value} {n : Nat} (hins : (Cond.instantiable C n).before args s = true) (hsame : (Cond.sameMethod x.cls x.cls x.name x.desc).before args s = true) (hpriv : (Cond.privateMethod x).before args s = true) (hinst : (Cond.instanceMethod x).before args s = true) : (Cond.selects C x x).before args s = true := by
  obtain ⟨c, k, hc, hk, -⟩ := Cond.instantiable_spec hins
  obtain ⟨cn, ck, r1, hcn, hck, hni, hf, hn1⟩ := Cond.sameMethod_found hsame
  obtain ⟨mk, methM, hnamed, hmethM, -, -⟩ := Cond.instanceMethod_spec hinst
  have e1 : mk = r1 := Option.some.inj (hnamed.symm.trans hn1)
  subst e1
  have hcls : mk.cls = cn := Option.some.inj ((findClass_of_methodNamed hnamed).symm.trans hcn)
  have hsel : selectMethod {} s.vm c mk = .method mk := selectMethod_private hmethM (Cond.privateMethod_at hpriv mk methM hnamed hmethM)
  simp only [Cond.before, Cond.holds, Cond.value, hc, hf, hnamed, hsel, hcls, hck]
  simp
  exact hni
/-- a call of x's name on an object of class ci, that runs N -/
theorem me_callU {x : MethodName} {b0 : ByteArray} {m0 n ci idx q : Nat} {r0 : Option FieldType} {C : String} {σ : Type} {lN : σ → mm_O} {As : List Value} {v : Option Value} {h1 : mm_H} {z : σ} (d : decode (my_b M) pc = .ok (.invokevirtual idx, 3)) (hp : pc + 3 = pc') (hm : mm_mU N n) (hln : As.length = n) (hk : Cond.methodLink (my_y M).cls idx x ∈ mm_gw) (hsame : Cond.sameMethod x.cls x.cls x.name x.desc ∈ mm_gw) (hx0 : Cond.instanceMethod x ∈ mm_gw ∧ Cond.code x b0 m0 r0 ∈ mm_gw)
    (hsel : Cond.selects C x (my_y N) ∈ mm_gw ∨ (x = my_y N ∧ Cond.instantiable C 4 ∈ mm_gw ∧ Cond.privateMethod x ∈ lw_tbl)) (hxc : (x.cls ≠ "java/lang/invoke/MethodHandle" ∧ x.cls ≠ "java/lang/invoke/VarHandle") ∧ (parseMethodDescriptor x.desc).map (fun d => d.parameters.length) = some n)
    (hq : F h → mm_kk h q = (0, ci)) (hcn : mm_cn ci = some C) (hn : F h → q < mh_n h)
    (hfr : my_f N + 1 ≤ my_f M ∧ 8 + (my_L N + 11) + my_w N ≤ my_w M) (hcat : (st.map fun v => v.category).sum ≤ 8) (hF' : F h → F' h) (hR : mm_R2 F' G' N (.ref q :: As) h (some z) lN) (hl : lN z = (.inl v, h1)) (hg : G' h1 → F'' h1) (K : mm_E2 F'' G M pc' L (v.toList ++ st) h1 o lf) : mm_E2 F G M pc L (As.reverse ++ .ref q :: st) h o lf := by
  refine mm_call (kN := fun _ => o) (oN := some z) hp hF' hR (fun r X p l e R s m args below meth c H locs ls cells slots hC hP hS hL hF hsz hM hrm => ?_) (fun y hy => by cases hy; exact Or.inl ⟨v, h1, hl, hg, K⟩)
  obtain ⟨hl, hx, hb, hr', hml, hown, hlk, hts, hE, hte, hin0, hRf, hRl⟩ := hC
  have hrc := mm_recv hE hP (hq hF) (hn hF) hcn
  have hpay := pay_in hts (mm_good hm.1)
  have hs9 : (Cond.selects C x (my_y N)).before args s = true := by
    rcases hsel with hsel | ⟨rfl, h1, h2⟩
    · exact hts _ hsel
    · exact mm_selP (hts _ h1) (hts _ hsame) ((Cond.onTables_vm (A := #[]) (A' := args) (U := s) (U' := s) s.vm (Cond.privateMethod (my_y N)) rfl).symm.trans (hE.2.2.2.2.2.2.2.2.2.2 (my_y N) h2)) (hts _ hx0.1)
  refine ⟨(Value.ref (mx_ad X q) :: As.map (mx_cv X)).toArray, ?_⟩
  exact vx_runU (As := As.map (mx_cv X)) (Ts := mm_gw) (x := x) (owner := x.cls) (C := C) ⟨hx, hb, hml, hown, hts⟩ hM ⟨⟨rfl, rfl, by show my_f N + 1 ≤ _; omega, by show 8 + (my_L N + 11) + my_w N ≤ _; omega, hpay, mm_code_in hm.1⟩, hts _ hm.1.2.1, hts _ hm.1.2.2.1, hxc.1, fun sig hs => (by have h2 := hxc.2; rw [hs] at h2; exact (Option.some.inj h2).symm), hts _ hk, hts _ hsame, va_Decl.of (hts _ hx0.1) (hts _ hx0.2), hs9, hts _ hm.2⟩
      ⟨mm_Pc_blind, hrc, mm_Pc_at hE hP hS hsz⟩ rfl (by rw [List.length_map]; exact hln) hL.1 (by rw [List.map_append, List.map_reverse]; rfl) (by show 2 * 0 + _ ≤ 8; rw [mx_cats]; omega) d hrm
/-- super.m(..) -/
theorem me_callSU {n ci idx q : Nat} {C : String} {σ : Type} {lN : σ → mm_O} {As : List Value} {v : Option Value} {h1 : mm_H} {z : σ} (d : decode (my_b M) pc = .ok (.invokespecial idx, 3)) (hp : pc + 3 = pc') (hm : mm_mU N n) (hln : As.length = n) (hk : Cond.methodLink (my_y M).cls idx (my_y N) ∈ mm_gw) (hsame : Cond.sameMethod (my_y N).cls (my_y N).cls (my_y N).name (my_y N).desc ∈ mm_gw) (hsup : Cond.superclass (my_y M).cls (my_y N).cls ∈ mm_gw) (hno : (my_y N).name ≠ "<init>")
    (hq : F h → mm_kk h q = (0, ci)) (hcn : mm_cn ci = some C) (hn : F h → q < mh_n h)
    (hfr : my_f N + 1 ≤ my_f M ∧ 8 + (my_L N + 11) + my_w N ≤ my_w M) (hcat : (st.map fun v => v.category).sum ≤ 8) (hF' : F h → F' h) (hR : mm_R2 F' G' N (.ref q :: As) h (some z) lN) (hl : lN z = (.inl v, h1)) (hg : G' h1 → F'' h1) (K : mm_E2 F'' G M pc' L (v.toList ++ st) h1 o lf) : mm_E2 F G M pc L (As.reverse ++ .ref q :: st) h o lf := by
  refine mm_call (kN := fun _ => o) (oN := some z) hp hF' hR (fun r X p l e R s m args below meth c H locs ls cells slots hC hP hS hL hF hsz hM hrm => ?_) (fun y hy => by cases hy; exact Or.inl ⟨v, h1, hl, hg, K⟩)
  obtain ⟨hl, hx, hb, hr', hml, hown, hlk, hts, hE, hte, hin0, hRf, hRl⟩ := hC
  have hrc := mm_recv hE hP (hq hF) (hn hF) hcn
  have hpay := pay_in hts (mm_good hm.1)
  obtain ⟨r9, hc9, hc8⟩ := Option.map_eq_some_iff.mp hcn
  have hat := (hE.2.2.1.1 ci r9 hc9).2
  rw [hc8] at hat
  refine ⟨(Value.ref (mx_ad X q) :: As.map (mx_cv X)).toArray, ?_⟩
  exact vx_runSU (As := As.map (mx_cv X)) (Ts := mm_gw) hat ⟨hx, hb, hml, hown, hts⟩ hM ⟨⟨rfl, rfl, by show my_f N + 1 ≤ _; omega, by show 8 + (my_L N + 11) + my_w N ≤ _; omega, hpay, mm_code_in hm.1⟩, hts _ hk, hts _ hsame, hts _ hsup, hts _ hm.2, hts _ hm.1.2.2.1, hts _ hm.1.2.1, hno, mm_plen hm.1⟩
      ⟨mm_Pc_blind, hrc, mm_Pc_at hE hP hS hsz⟩ rfl (by rw [List.length_map]; exact hln) hL.1 (by rw [List.map_append, List.map_reverse]; rfl) (by show 2 * 0 + _ ≤ 8; rw [mx_cats]; omega) d hrm
/-- a call of a constant String's method -/
theorem me_callTx {n idx i : Nat} {σ : Type} {lN : σ → mm_O} {As : List Value} {v : Option Value} {h1 : mm_H} {z : σ} (hi : i < 17) (d : decode (my_b M) pc = .ok (.invokevirtual idx, 3)) (hp : pc + 3 = pc') (hm : mm_mV N n) (hln : As.length = n) (hk : mm_lk (my_y M).cls idx N) (hcn : (my_y N).cls = "java/lang/String")
    (hfr : my_f N + 1 ≤ my_f M ∧ 8 + (my_L N + 11) + my_w N ≤ my_w M) (hcat : (st.map fun v => v.category).sum ≤ 8) (hF' : F h → F' h) (hR : mm_R2 F' G' N (.ref (mm_NN + 1 + i) :: As) h (some z) lN) (hl : lN z = (.inl v, h1)) (hg : G' h1 → F'' h1) (K : mm_E2 F'' G M pc' L (v.toList ++ st) h1 o lf) : mm_E2 F G M pc L (As.reverse ++ .ref (mm_NN + 1 + i) :: st) h o lf :=
  me_callT hi d hp hm hln hk hcn hfr hcat hF' hR hl hg K
theorem me_dup_x1 {v w : Value} (d : decode (my_b M) pc = .ok (.dup_x1, 1)) (hp : pc + 1 = pc') (hv : v.category = 1) (hw : w.category = 1) (k : mm_E2 F G M pc' L (v :: w :: v :: st) h o lf) : mm_E2 F G M pc L (v :: w :: st) h o lf := by
  subst hp
  exact mm_lift (fun X p l e R s m args below meth c H locs ls cells slots Q hC hP hS hL hF _ _ kk => lv_dup_x1 hC.2.1 hC.2.2.1 d (by rw [mx_cv_cat]; exact hv) (by rw [mx_cv_cat]; exact hw) kk) k
theorem me_ifnonnull {x tgt : Nat} {off : Int} (d : decode (my_b M) pc = .ok (.ifnonnull off, 3)) (ht : (pc : Int) + off = (tgt : Int)) (k : mm_E2 F G M tgt L st h o lf) : mm_E2 F G M pc L (.ref x :: st) h o lf :=
  mm_lift (fun X p l e R s m args below meth c H locs ls cells slots Q hC hP hS hL hF _ _ kk => lv_ifnonnull hC.2.1 hC.2.2.1 d ht kk) k
theorem me_null (d : decode (my_b M) pc = .ok (.aconst_null, 1)) (hp : pc + 1 = pc') (k : mm_E2 F G M pc' L (.null :: st) h o lf) : mm_E2 F G M pc L st h o lf := by
  subst hp
  exact mm_lift (st' := .null :: st) (fun X p l e R s m args below meth c H locs ls cells slots Q hC hP hS hL hF _ _ kk => lv_null hC.2.1 hC.2.2.1 d kk) k
theorem me_compact {idx : Nat} (hk : Cond.fieldLink (my_y M).cls idx "java/lang/String" "COMPACT_STRINGS" "Z" ∈ mm_gw) (d : decode (my_b M) pc = .ok (.getstatic idx, 3)) (hp : pc + 3 = pc') (K : mm_E2 F G M pc' L (.int 1 :: st) h o lf) : mm_E2 F G M pc L st h o lf := by
  subst hp
  refine mm_lift (st' := .int 1 :: st) (fun X p l e R s m args below meth c H locs ls cells slots Q hC hP hS hL hF hc hs9 kk => ?_) K
  obtain ⟨hl, hx, hb, hr, hml, hown, hlk, hts, hE, hte, hin0, hRf, hRl⟩ := hC
  exact va_gets hx hb hE.2.2.2.2.2.2.2.2.1.1 hS hown (hts _ hk) (fun _ h9 => h9) d kk
theorem mm_dg_of {X : mm_X} {U : State} {H : Heap} {a : Nat} (ha : a = 1 ∨ a = 2) (hE : mm_E X U H) : mm_dg a X U H := by
  rcases ha with rfl | rfl
  · exact hE.2.2.2.2.2.2.2.2.1.2.2.1
  · exact hE.2.2.2.2.2.2.2.2.1.2.2.2
/-- the digits' arrays of java/lang/Integer: their static, their bytes -/
theorem me_digits {a idx q : Nat} (ha : a = 1 ∨ a = 2) (hq : mm_NN + 201 + a = q) (hk : Cond.fieldLink (my_y M).cls idx "java/lang/Integer" (if a = 1 then "DigitOnes" else "DigitTens") "[B" ∈ mm_gw) (d : decode (my_b M) pc = .ok (.getstatic idx, 3)) (hp : pc + 3 = pc') (K : mm_E2 F G M pc' L (.ref q :: st) h o lf) : mm_E2 F G M pc L st h o lf := by
  subst hp
  subst hq
  refine mm_lift (st' := .ref (mm_NN + 201 + a) :: st) (fun X p l e R s m args below meth c H locs ls cells slots Q hC hP hS hL hF hc hs9 kk => ?_) K
  obtain ⟨hl, hx, hb, hr, hml, hown, hlk, hts, hE, hte, hin0, hRf, hRl⟩ := hC
  have kk' : W p l e R s m args below meth c H locs cells slots Q (F0 m (pc + 3) ls (.ref (mx_ad X (mm_NN + 201 + a)) :: st.map (mx_cv X))) := kk
  rw [mx_ad_fmt X a] at kk'
  exact va_gets hx hb (mm_dg_of ha hE).1 hS hown (hts _ hk) (fun _ h9 => h9) d kk'
theorem me_digit {a q : Nat} {k : Int32} (ha : a = 1 ∨ a = 2) (hq : mm_NN + 201 + a = q) (hk : vp_in k 100) (d : decode (my_b M) pc = .ok (.baload, 1)) (hp : pc + 1 = pc') (K : mm_E2 F G M pc' L (.int (nI (if a = 1 then k.toNatClampNeg % 10 + 48 else k.toNatClampNeg / 10 + 48)) :: st) h o lf) : mm_E2 F G M pc L (.int k :: .ref q :: st) h o lf := by
  subst hp
  subst hq
  refine mm_lift (st' := .int (nI (if a = 1 then k.toNatClampNeg % 10 + 48 else k.toNatClampNeg / 10 + 48)) :: st) (fun X p l e R s m args below meth c H locs ls cells slots Q hC hP hS hL hF hc hs9 kk => ?_) K
  obtain ⟨hl, hx, hb, hr, hml, hown, hlk, hts, hE, hte, hin0, hRf, hRl⟩ := hC
  show W p l e R s m args below meth c H locs cells slots Q (F0 m pc ls (.int k :: .ref (mx_ad X (mm_NN + 201 + a)) :: st.map (mx_cv X)))
  rw [mx_ad_fmt X a]
  exact va_tb hx hb (mm_dg_of ha hE).2 hS hk rfl d kk
theorem me_aretA {x : τ} {v : Nat} {ty : FieldType} (d : decode (my_b M) pc = .ok (.areturn, 1)) (hr : my_r M = some (.array ty)) (hFG : F h → G h) (hlf : lf x = (.inl (some (.ref v)), h)) : mm_E2 F G M pc L [.ref v] h (some x) lf := by
  intro y hy hF
  cases hy
  rw [hlf]
  refine ⟨mm_le_refl h, hFG hF, fun X p l e R s m args below meth c hC k0 w0 h0 h1 h2 h3 h4 H locs ls hP hS hL => ?_⟩
  obtain ⟨hl, hx, hb, hr', hml, hown, hlk, hts, hE, hte, hin0, hRf, hRl⟩ := hC
  exact vx_ret (W.aret hx hb (hr'.trans hr) (Or.inr ⟨_, rfl⟩) (Or.inr ⟨_, rfl⟩) (fun t ht hW => ⟨⟨some (.ref v), rfl, rfl⟩, by rw [ht]; exact hP, hS.F ht⟩) hS.2.2 d hlk)
/-- bytes from one array to another -/
theorem me_copyb {idx a b n0 n1 : Nat} {sp dp n : Int32} (d : decode (my_b M) pc = .ok (.invokestatic idx, 3)) (hp : pc + 3 = pc') (hk : Cond.methodLink (my_y M).cls idx arraycopyName ∈ mm_gw) (hka : F h → mm_kk h a = (3, n0)) (hkb : F h → mm_kk h b = (3, n1)) (hna : F h → a < mh_n h) (hnb : F h → b < mh_n h) (hfit : sb_Fit (mh_I h a))
    (h1 : ¬ sp < 0) (h2 : ¬ dp < 0) (h3 : ¬ n < 0) (h4 : sp.toNatClampNeg + n.toNatClampNeg ≤ n0) (h5 : dp.toNatClampNeg + n.toNatClampNeg ≤ n1) (hfr : 1 ≤ my_f M ∧ 60 ≤ my_w M) (hcat : (st.map fun v => v.category).sum ≤ 8)
    (hF' : F h → F' (ms_Y h b (va_cpy (mh_I h a) (mh_I h b) sp.toNatClampNeg dp.toNatClampNeg n.toNatClampNeg))) (K : mm_E2 F' G M pc' L st (ms_Y h b (va_cpy (mh_I h a) (mh_I h b) sp.toNatClampNeg dp.toNatClampNeg n.toNatClampNeg)) o lf) : mm_E2 F G M pc L (.int n :: .int dp :: .ref b :: .int sp :: .ref a :: st) h o lf := by
  subst hp
  refine mm_liftH (st' := st) hF' rfl rfl (fun X hF hP => mm_Pr_Y (hnb hF) hP) (fun X p l e R s m args below meth c H locs ls cells slots Q hC hP hS hL hF kk => ?_) K
  obtain ⟨hl, hx, hb, hr, hml, hown, hlk, hts, hE, hte, hin0, hRf, hRl⟩ := hC
  show W p l e R s m args below meth c H locs cells slots Q (F0 m pc ls (.int n :: .int dp :: .ref (mx_ad X b) :: .int sp :: .ref (mx_ad X a) :: st.map (mx_cv X)))
  rw [mx_ad_lt (Nat.lt_of_lt_of_le (hna hF) hP.2.1), mx_ad_lt (Nat.lt_of_lt_of_le (hnb hF) hP.2.1)]
  have hka := hka hF
  have hkb := hkb hF
  have hset : (mm_ws X h).set b (mx_base X + b, .inl (mx_dA X 2, n1, .inl (va_cpy (mh_I h a) (mh_I h b) sp.toNatClampNeg dp.toNatClampNeg n.toNatClampNeg))) = mm_ws X (ms_Y h b (va_cpy (mh_I h a) (mh_I h b) sp.toNatClampNeg dp.toNatClampNeg n.toNatClampNeg)) := by
    have e1 := mm_cell_3 (X := X) (h := ms_Y h b (va_cpy (mh_I h a) (mh_I h b) sp.toNatClampNeg dp.toNatClampNeg n.toNatClampNeg)) hkb rfl
    have e2 : mh_I (ms_Y h b (va_cpy (mh_I h a) (mh_I h b) sp.toNatClampNeg dp.toNatClampNeg n.toNatClampNeg)) b = va_cpy (mh_I h a) (mh_I h b) sp.toNatClampNeg dp.toNatClampNeg n.toNatClampNeg := funext fun j => if_pos rfl
    rw [e2] at e1
    rw [← e1]
    exact mm_ws_set (hnb hF) rfl (fun p hp => mm_ne_Y p hp)
  exact va_copyi hx hb (by rw [hml]; exact hL.1.symm) hown (hts _ hk) (hts _ wo_cpy.1) (hts _ wo_cpy.2.1) (hts _ wo_cpy.2.2) hE.2.2.1 hP.1 (mm_wsD X h) hS a b 2 2 (by rw [mm_ws_get (hna hF), mm_cell_3 hka rfl]) (by rw [mm_ws_get (hnb hF), mm_cell_3 hkb rfl]) rfl rfl rfl h1 h2 h3 h4 h5 (fun i _ => hfit _) (by omega)
    (by rw [mx_cats]; have : nativeFrameWords "java/lang/System" "arraycopy" 5 + 11 ≤ 40 := by decide +kernel
        omega) d (fun H1 locs1 hP1 _ hS1 => kk H1 locs1 (hset ▸ hP1) hS1)
def mm_sbs (i : Nat) : Nat → Int32 := fun j => (mm_sbyt.getD i []).getD j 0
/-- the bytes of a constant String into an array -/
theorem me_copyT {idx i b n1 : Nat} {dp n : Int32} (hi : i < 17) (d : decode (my_b M) pc = .ok (.invokestatic idx, 3)) (hp : pc + 3 = pc') (hk : Cond.methodLink (my_y M).cls idx arraycopyName ∈ mm_gw) (hkb : F h → mm_kk h b = (3, n1)) (hnb : F h → b < mh_n h) (hfit : sb_Fit (mm_sbs i))
    (h2 : ¬ dp < 0) (h3 : ¬ n < 0) (h4 : n.toNatClampNeg ≤ mm_sn i) (h5 : dp.toNatClampNeg + n.toNatClampNeg ≤ n1) (hfr : 1 ≤ my_f M ∧ 60 ≤ my_w M) (hcat : (st.map fun v => v.category).sum ≤ 8)
    (hF' : F h → F' (ms_Y h b (va_cpy (mm_sbs i) (mh_I h b) 0 dp.toNatClampNeg n.toNatClampNeg))) (K : mm_E2 F' G M pc' L st (ms_Y h b (va_cpy (mm_sbs i) (mh_I h b) 0 dp.toNatClampNeg n.toNatClampNeg)) o lf) : mm_E2 F G M pc L (.int n :: .int dp :: .ref b :: .int 0 :: .ref (mm_NN + 101 + i) :: st) h o lf := by
  subst hp
  refine mm_liftH (st' := st) hF' rfl rfl (fun X hF hP => mm_Pr_Y (hnb hF) hP) (fun X p l e R s m args below meth c H locs ls cells slots Q hC hP hS hL hF kk => ?_) K
  obtain ⟨hl, hx, hb, hr, hml, hown, hlk, hts, hE, hte, hin0, hRf, hRl⟩ := hC
  show W p l e R s m args below meth c H locs cells slots Q (F0 m pc ls (.int n :: .int dp :: .ref (mx_ad X b) :: .int 0 :: .ref (mx_ad X (mm_NN + 101 + i)) :: st.map (mx_cv X)))
  rw [mx_ad_val X hi, mx_ad_lt (Nat.lt_of_lt_of_le (hnb hF) hP.2.1)]
  have hkb := hkb hF
  have hset : (mm_ws X h).set b (mx_base X + b, .inl (mx_dA X 2, n1, .inl (va_cpy (mm_sbs i) (mh_I h b) 0 dp.toNatClampNeg n.toNatClampNeg))) = mm_ws X (ms_Y h b (va_cpy (mm_sbs i) (mh_I h b) 0 dp.toNatClampNeg n.toNatClampNeg)) := by
    have e1 := mm_cell_3 (X := X) (h := ms_Y h b (va_cpy (mm_sbs i) (mh_I h b) 0 dp.toNatClampNeg n.toNatClampNeg)) hkb rfl
    have e2 : mh_I (ms_Y h b (va_cpy (mm_sbs i) (mh_I h b) 0 dp.toNatClampNeg n.toNatClampNeg)) b = va_cpy (mm_sbs i) (mh_I h b) 0 dp.toNatClampNeg n.toNatClampNeg := funext fun j => if_pos rfl
    rw [e2] at e1
    rw [← e1]
    exact mm_ws_set (hnb hF) rfl (fun p hp => mm_ne_Y p hp)
  exact vk_copyt hx hb (by rw [hml]; exact hL.1.symm) hown (hts _ hk) (hts _ wo_cpy.1) (hts _ wo_cpy.2.1) (hts _ wo_cpy.2.2) hE.2.2.1 hP.1 (mm_wsD X h) hS (f := mm_sbs i) (hE.2.2.2.1 i hi).2.2.2 b 2 (by rw [mm_ws_get (hnb hF), mm_cell_3 hkb rfl]) rfl (by decide) h2 h3 (by rw [sb_cl0, Nat.zero_add]; exact h4) h5 (fun j _ => hfit _) (by omega)
    (by rw [mx_cats]; have : nativeFrameWords "java/lang/System" "arraycopy" 5 + 11 ≤ 40 := by decide +kernel
        omega) d (fun H1 locs1 hP1 _ hS1 => kk H1 locs1 (by rw [sb_cl0] at hP1; exact hset ▸ hP1) hS1)
end MMSB1

section MMY
/-! methods with handlers (gen20.py) -/
variable {τ : Type} {F G : mm_H → Prop} {M : mm_M} {pc pc' : Nat} {L : List (Option Value)} {st : List Value} {h : mm_H} {o : Option τ} {lf : τ → mm_O}
/-- which handler takes an E thrown at pc -/
def mm_ct (M : mm_M) (pc : Nat) (E : String) (hp : Nat) : Prop := ∃ (pre : List ExceptionTableEntry) (x : ExceptionTableEntry) (suf : List ExceptionTableEntry), tableOf (my_h M) = pre ++ x :: suf ∧ (∀ z ∈ pre, z.catchType ≠ 0 ∧ ∃ nm, Cond.classLink (my_y M).cls z.catchType nm ∈ mm_gw ∧ (E, nm) ∈ mm_ncl) ∧ covers x pc = true ∧ x.catchType ≠ 0 ∧ x.handlerPc = hp ∧ Cond.classLink (my_y M).cls x.catchType E ∈ mm_gw ∧ Cond.castable E E ∈ lw_tbl
def mm_as (M : mm_M) (hp pcA : Nat) : Prop := (∃ k, decode (my_b M) hp = .ok (.astore k, 2) ∧ k < my_L M ∧ hp + 2 = pcA) ∨ ∃ j : Fin 4, decode (my_b M) hp = .ok (.astore_n j, 1) ∧ (j : Nat) < my_L M ∧ hp + 1 = pcA
theorem mm_LH0 {X : mm_X} {ls : Array Slot} {n : Nat} {l : List (Nat × Value)} (h : lv_has ls n l) : mm_LH X ls n [] := ⟨h.1, h.2.1, fun i v hv => by simp at hv⟩
theorem mm_callH {N : mm_M} {F' G' F'' : mm_H → Prop} {σ : Type} {oN : Option σ} {lN : σ → mm_O} {kN : σ → Option τ} {as st0 rest : List Value} {pc3 : Nat} (hp : pc + 3 = pc3) (hnl : my_h M ≠ [(0, 0, 0, 0)]) (hF' : F h → F' h) (hR : mm_R2 F' G' N as h oN lN)
    (hrun : ∀ (r : mm_O) (X : mm_X) (p : Program) (l : Launch) (e : Env) (R : Room) (s : State) (m : MethodId) (args : Array Value) (below : List Frame) (meth : Method) (c : Code) (H : Heap) (locs : List Loc) (ls : Array Slot) (cells slots : Nat), mm_CX M X p l R s m args meth c → mm_P X h H → va_S (mm_A X) s.heap H locs → mm_LH X ls (my_L M) L → F h → H.size ≤ mx_base X + mh_c h →
      vx_Met l (my_y N) (my_ws N) { frames := my_f N, cells := mh_c r.2 - mh_c h, slots := mh_w r.2 - mh_w h, locals := my_w N } (mm_Pc X as h) (mm_Q X r) (mm_V X r) (mh_c r.2 - mh_c h) (mh_w r.2 - mh_w h) (mm_A X) → cells + (mh_c r.2 - mh_c h) ≤ R.cells ∧ slots + (mh_w r.2 - mh_w h) ≤ R.slots →
      ∃ a : Array Value, vx_Run p l e R s m args below meth c H locs cells slots (mh_c r.2 - mh_c h) (mh_w r.2 - mh_w h) (F0 m pc ls (st0.map (mx_cv X))) (rest.map (mx_cv X)) (mm_Q X r a) (mm_V X r) (mm_A X))
    (hv : ∀ x, oN = some x → (∃ v h1, lN x = (.inl v, h1) ∧ (G' h1 → F'' h1) ∧ mm_E2 F'' G M pc3 L (v.toList ++ rest) h1 (kN x) lf) ∨
      (∃ E h1, lN x = (.inr E, h1) ∧ ∀ y, kN x = some y → ∃ hpc pcA, mm_ct M pc E hpc ∧ mm_as M hpc pcA ∧ (G' h1 → F'' h1) ∧ mm_E2 F'' G M pcA [] [] h1 (some y) lf)) : mm_E2 F G M pc L st0 h (oN.bind kN) lf := by
  subst hp
  intro y hy hF
  obtain ⟨x, hx, hkx⟩ := Option.bind_eq_some_iff.mp hy
  obtain ⟨n1, n2, n3⟩ := hR x hx (hF' hF)
  rcases hv x hx with ⟨v, h1, e1, hg, K⟩ | ⟨E, h1, e1, K⟩
  · rw [e1] at n1 n2
    obtain ⟨k1, k2, k3⟩ := K y hkx (hg n2)
    refine ⟨mm_le_trans n1 k1, k2, fun X p l e R s m args below meth c hC k0 w0 h0 b1 b2 b3 b4 H locs ls hP hS hL => ?_⟩
    have n1' : mh_c h ≤ mh_c h1 ∧ mh_w h ≤ mh_w h1 := n1
    have k1' : mh_c h1 ≤ mh_c (lf y).2 ∧ mh_w h1 ≤ mh_w (lf y).2 := k1
    refine mm_sz fun hsz => ?_
    obtain ⟨a, hrn⟩ := hrun (lN x) X p l e R s m args below meth c H locs ls (mh_c h - k0) (mh_w h - w0) hC hP hS hL hF (by omega) (n3 l X hC.1) (by rw [e1]; constructor <;> dsimp only <;> omega)
    refine mm_run hrn hS (fun v9 hv9 H1 locs1 hP1 hS1 => ?_) (fun E9 hE9 => by rw [e1] at hE9; cases hE9)
    rw [e1] at hv9 hP1
    cases hv9
    have z := k3 X p l e R s m args below meth c hC k0 w0 h0 (by omega) (by omega) b3 b4 H1 locs1 ls hP1 hS1 hL
    rw [e1]
    dsimp only
    rw [show mh_c h - k0 + (mh_c h1 - mh_c h) = mh_c h1 - k0 by omega, show mh_w h - w0 + (mh_w h1 - mh_w h) = mh_w h1 - w0 by omega]
    rw [List.map_append] at z
    cases v with
    | none => exact z
    | some w => exact z
  · rw [e1] at n1 n2
    obtain ⟨hpc, pcA, hct, has, hg, K2⟩ := K y hkx
    obtain ⟨k1, k2, k3⟩ := K2 y rfl (hg n2)
    refine ⟨mm_le_trans n1 k1, k2, fun X p l e R s m args below meth c hC k0 w0 h0 b1 b2 b3 b4 H locs ls hP hS hL => ?_⟩
    have n1' : mh_c h ≤ mh_c h1 ∧ mh_w h ≤ mh_w h1 := n1
    have k1' : mh_c h1 ≤ mh_c (lf y).2 ∧ mh_w h1 ≤ mh_w (lf y).2 := k1
    refine mm_sz fun hsz => ?_
    obtain ⟨a, hrn⟩ := hrun (lN x) X p l e R s m args below meth c H locs ls (mh_c h - k0) (mh_w h - w0) hC hP hS hL hF (by omega) (n3 l X hC.1) (by rw [e1]; constructor <;> dsimp only <;> omega)
    refine mm_run hrn hS (fun v9 hv9 => by rw [e1] at hv9; cases hv9) (fun E9 hE9 H1 locs1 q9 ce hP1 hS1 g1 g2 g3 => ?_)
    rw [e1] at hE9 hP1
    cases hE9
    rw [e1]
    dsimp only
    rw [show mh_c h - k0 + (mh_c h1 - mh_c h) = mh_c h1 - k0 by omega, show mh_w h - w0 + (mh_w h1 - mh_w h) = mh_w h1 - w0 by omega]
    have hC2 := hC
    obtain ⟨hl, hx9, hb, hr', hml, hown, hlk, hts, hE, hte, hin0, hRf, hRl⟩ := hC
    have hte : c.exceptionTable.toList = tableOf (my_h M) := hte.elim (fun z => absurd z hnl) id
    obtain ⟨pre, xx, suf, t1, t2, t3, t4, t5, t6, t7⟩ := hct
    refine vx_catch hown pre xx suf (hte.trans t1) (fun z hz => ?_) t3 t4 (hts _ t6) (va_Nw.use rfl (hE.2.2.2.2.2.2.1 _ t7 rfl)) g1 g2 g3 ?_
    · obtain ⟨u1, nm, u2, u3⟩ := t2 z hz
      exact Or.inr ⟨u1, nm, hts _ u2, hE.2.2.2.2.2.2.2.2.2.2 _ u3⟩
    · rw [t5]
      have kk : ∀ ls' : Array Slot, mm_LH X ls' (my_L M) [] → W p l e R s m args below meth c H1 locs1 (mh_c h1 - k0) (mh_w h1 - w0) (vx_MQ below (mm_Q X (lf y)) (mm_V X (lf y)) args s (mh_c (lf y).2 - k0) (mh_w (lf y).2 - w0) (mm_A X)) (F0 m pcA ls' ([].map (mx_cv X))) := fun ls' hL' =>
        k3 X p l e R s m args below meth c hC2 k0 w0 h0 (by omega) (by omega) b3 b4 H1 locs1 ls' hP1 hS1 hL'
      rcases has with ⟨k, d1, d2, rfl⟩ | ⟨j, d1, d2, rfl⟩
      · exact lv_astore hx9 hb d1 (mm_has hL) d2 rfl (fun ls' h9 => kk ls' (mm_LH0 h9))
      · exact lv_astore_n hx9 hb d1 rfl (mm_has hL) d2 rfl (fun ls' h9 => kk ls' (mm_LH0 h9))
theorem mm_bodyH {as : List Value} (hh : my_h M ≠ []) (hpl : plainName (my_y M).cls = true) (hlen : (mm_en as).length ≤ my_L M) (hL : mm_L0 as (my_L M) = L) (K : mm_E2 F G M 0 L [] h o lf) : mm_R2 F G M as h o lf := by
  intro x hx hF
  obtain ⟨k1, k2, k3⟩ := K x hx hF
  refine ⟨k1, k2, fun l X hl => ?_⟩
  have hws : my_ws M = Cond.codeWith (my_y M) (my_b M) (my_L M) (my_r M) (my_h M) :: mm_gw := by
    unfold my_ws
    cases hq : my_h M with
    | nil => exact absurd hq hh
    | cons a t => rfl
  refine vx_ofWH (cc := my_b M) (maxL := my_L M) (ret := my_r M) (ws' := mm_gw) hpl hws ?_
  intro p e s m args below meth c s₁ B hml hPc
  obtain ⟨rfl, hP, hE, hsz⟩ := hPc
  have hts := atoms_spec (ws := my_ws M) B.pre
  have htab := vx_table (x := my_y M) B (hts _ (by rw [hws]; exact List.mem_cons_self))
  have hl0 := lv_entry (as.map (mx_cv X)) (n := my_L M) (by rw [mm_sl_len]; exact hlen)
  rw [lg_entry_eq]
  generalize (lg_sl (as.map (mx_cv X)) ++ List.replicate (my_L M - (lg_sl (as.map (mx_cv X))).length) Slot.unset).toArray = ls at hl0 ⊢
  have hLH : mm_LH X ls (my_L M) L := ⟨hl0.1, hl0.2.1, fun i v hv => by rw [← hL] at hv; exact hl0.2.2 _ (mm_L0_in hv)⟩
  have z := k3 X p l e (headSpec (my_ws M) { frames := my_f M, cells := mh_c (lf x).2 - mh_c h, slots := mh_w (lf x).2 - mh_w h, locals := my_w M }).room s m (as.map (mx_cv X)).toArray below meth c
    ⟨hl, B.exec, B.bytes, B.returns, hml, findClass_of_methodNamed B.named, B.notSynchronized, fun w hw => hts w (by rw [hws]; exact List.mem_cons_of_mem _ hw), hE, Or.inr htab, fun hn => (name_of_methodNamed B.named B.method).1.trans hn, Nat.le_refl _, Nat.le_refl _⟩
    (mh_c h) (mh_w h) hsz (Nat.le_refl _) (Nat.le_refl _) (Nat.le_refl _) (Nat.le_refl _) s.heap [] ls hP va_S.rf hLH
  rw [Nat.sub_self, Nat.sub_self] at z
  exact z
variable {N : mm_M} {F' G' F'' : mm_H → Prop} {σ : Type} {oN : Option σ} {lN : σ → mm_O} {kN : σ → Option τ} {As : List Value} {q ci idx n : Nat}
theorem me_callVH (d : decode (my_b M) pc = .ok (.invokevirtual idx, 3)) (hp : pc + 3 = pc') (hm : mm_mV N n) (hln : As.length = n) (hk : mm_lk (my_y M).cls idx N) (hq : mm_kd q = (0, ci)) (hcn : mm_cn ci = some (my_y N).cls) (hn : F h → q < mh_n h)
    (hfr : my_f N + 1 ≤ my_f M ∧ 8 + (my_L N + 11) + my_w N ≤ my_w M) (hcat : (st.map fun v => v.category).sum ≤ 8) (hnl : my_h M ≠ [(0, 0, 0, 0)]) (hF' : F h → F' h) (hR : mm_R2 F' G' N (.ref q :: As) h oN lN)
    (hv : ∀ x, oN = some x → (∃ v h1, lN x = (.inl v, h1) ∧ (G' h1 → F'' h1) ∧ mm_E2 F'' G M pc' L (v.toList ++ st) h1 (kN x) lf) ∨
      (∃ E h1, lN x = (.inr E, h1) ∧ ∀ y, kN x = some y → ∃ hpc pcA, mm_ct M pc E hpc ∧ mm_as M hpc pcA ∧ (G' h1 → F'' h1) ∧ mm_E2 F'' G M pcA [] [] h1 (some y) lf)) : mm_E2 F G M pc L (As.reverse ++ .ref q :: st) h (oN.bind kN) lf := by
  refine mm_callH hp hnl hF' hR (fun r X p l e R s m args below meth c H locs ls cells slots hC hP hS hL hF hsz hM hrm => ?_) hv
  obtain ⟨hl, hx, hb, hr', hml, hown, hlk, hts, hE, hte, hin0, hRf, hRl⟩ := hC
  have hrc := mm_recv hE hP hq (hn hF) hcn
  have hpay := pay_in hts (mm_good hm.1)
  refine ⟨(Value.ref (mx_ad X q) :: As.map (mx_cv X)).toArray, ?_⟩
  rcases hk with hk | ⟨host, hk⟩
  · exact vx_runV (As := As.map (mx_cv X)) (Ts := mm_gw) ⟨hx, hb, hml, hown, hts⟩ hM ⟨⟨rfl, rfl, by show my_f N + 1 ≤ _; omega, by show 8 + (my_L N + 11) + my_w N ≤ _; omega, hpay, mm_code_in hm.1, hts _ hm.1.2.1, hts _ hm.1.2.2.1, hm.1.2.2.2.1, mm_plen hm.1, hts _ hk⟩, hts _ hm.2.1, hts _ hm.2.2⟩
      ⟨mm_Pc_blind, hrc, mm_Pc_at hE hP hS hsz⟩ rfl (by rw [List.length_map]; exact hln) hL.1 (by rw [List.map_append, List.map_reverse]; rfl) (by show 2 * 0 + _ ≤ 8; rw [mx_cats]; omega) d hrm
  · exact vx_runVN (As := As.map (mx_cv X)) (Ts := mm_gw) ⟨hx, hb, hml, hown, hts⟩ hM ⟨⟨⟨rfl, rfl, by show my_f N + 1 ≤ _; omega, by show 8 + (my_L N + 11) + my_w N ≤ _; omega, hpay, mm_code_in hm.1⟩, hts _ hm.1.2.1, hts _ hm.1.2.2.1, hm.1.2.2.2.1, mm_plen hm.1, va_Nw.use rfl (hE.2.2.2.2.2.2.1 _ hk rfl)⟩, hts _ hm.2.1, hts _ hm.2.2⟩
      ⟨mm_Pc_blind, hrc, mm_Pc_at hE hP hS hsz⟩ rfl (by rw [List.length_map]; exact hln) hL.1 (by rw [List.map_append, List.map_reverse]; rfl) (by show 2 * 0 + _ ≤ 8; rw [mx_cats]; omega) d hrm
end MMY

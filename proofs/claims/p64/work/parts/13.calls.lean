section MMC
/-! returns, bodies, calls -/
variable {τ : Type} {F G : mm_H → Prop} {M : mm_M} {pc pc' : Nat} {L : List (Option Value)} {st : List Value} {h : mm_H} {o : Option τ} {lf : τ → mm_O}
theorem me_iret {x : τ} {v : Int32} (d : decode (my_b M) pc = .ok (.ireturn, 1)) (hr : my_r M = some .int) (hFG : F h → G h) (hlf : lf x = (.inl (some (.int v)), h)) : mm_E2 F G M pc L [.int v] h (some x) lf := by
  intro y hy hF
  cases hy
  rw [hlf]
  refine ⟨mm_le_refl h, hFG hF, fun X p l e R s m args below meth c hC k0 w0 h0 h1 h2 h3 h4 H locs ls hP hS hL => ?_⟩
  obtain ⟨hl, hx, hb, hr', hml, hown, hlk, hts, hE, hte, hin0, hRf, hRl⟩ := hC
  exact vx_ret (W.iret hx hb (hr'.trans hr) (fun t ht hW => ⟨⟨_, rfl, rfl⟩, by rw [ht]; exact hP, hS.F ht⟩) hS.2.2 d hlk)
theorem me_zret {x : τ} {b : Bool} (d : decode (my_b M) pc = .ok (.ireturn, 1)) (hr : my_r M = some .boolean) (hFG : F h → G h) (hlf : lf x = (.inl (some (.int (mx_bi b))), h)) : mm_E2 F G M pc L [.int (mx_bi b)] h (some x) lf := by
  intro y hy hF
  cases hy
  rw [hlf]
  refine ⟨mm_le_refl h, hFG hF, fun X p l e R s m args below meth c hC k0 w0 h0 h1 h2 h3 h4 H locs ls hP hS hL => ?_⟩
  obtain ⟨hl, hx, hb, hr', hml, hown, hlk, hts, hE, hte, hin0, hRf, hRl⟩ := hC
  exact vx_ret (W.zret hx hb (hr'.trans hr) (by cases b <;> rfl) (fun t ht hW => ⟨⟨_, rfl, rfl⟩, by rw [ht]; exact hP, hS.F ht⟩) hS.2.2 d hlk)
theorem me_vret {x : τ} (d : decode (my_b M) pc = .ok (.return_, 1)) (hr : my_r M = none) (hFG : F h → G h) (hlf : lf x = (.inl none, h)) : mm_E2 F G M pc L [] h (some x) lf := by
  intro y hy hF
  cases hy
  rw [hlf]
  refine ⟨mm_le_refl h, hFG hF, fun X p l e R s m args below meth c hC k0 w0 h0 h1 h2 h3 h4 H locs ls hP hS hL => ?_⟩
  obtain ⟨hl, hx, hb, hr', hml, hown, hlk, hts, hE, hte, hin0, hRf, hRl⟩ := hC
  exact vx_ret (W.vret hx hb (hr'.trans hr) (fun t ht hW => ⟨⟨_, rfl, rfl⟩, by rw [ht]; exact hP, hS.F ht⟩) hS.2.2 d hlk)
theorem me_aret {x : τ} {v : Nat} {cn : String} (d : decode (my_b M) pc = .ok (.areturn, 1)) (hr : my_r M = some (.object cn)) (hFG : F h → G h) (hlf : lf x = (.inl (some (.ref v)), h)) : mm_E2 F G M pc L [.ref v] h (some x) lf := by
  intro y hy hF
  cases hy
  rw [hlf]
  refine ⟨mm_le_refl h, hFG hF, fun X p l e R s m args below meth c hC k0 w0 h0 h1 h2 h3 h4 H locs ls hP hS hL => ?_⟩
  obtain ⟨hl, hx, hb, hr', hml, hown, hlk, hts, hE, hte, hin0, hRf, hRl⟩ := hC
  exact vx_ret (W.aret hx hb (hr'.trans hr) (Or.inl ⟨_, rfl⟩) (Or.inr ⟨_, rfl⟩) (fun t ht hW => ⟨⟨some (.ref v), rfl, rfl⟩, by rw [ht]; exact hP, hS.F ht⟩) hS.2.2 d hlk)
/-- the locals with which a body begins -/
def mm_en : List Value → List (Option Value)
  | [] => []
  | v :: t => if v.category = 2 then some v :: none :: mm_en t else some v :: mm_en t
def mm_L0 (as : List Value) (n : Nat) : List (Option Value) := mm_en as ++ List.replicate (n - (mm_en as).length) none
theorem mm_en_in {X : mm_X} : ∀ (as : List Value) (i k : Nat) (v : Value), (mm_en as)[k]? = some (some v) → (i + k, mx_cv X v) ∈ lv_args i (as.map (mx_cv X))
  | [], i, k, v, hk => by simp [mm_en] at hk
  | a :: t, i, k, v, hk => by
    rw [List.map_cons, lv_args, mx_cv_cat]
    unfold mm_en at hk
    by_cases hc : a.category = 2
    · rw [if_pos hc] at hk ⊢
      match k, hk with
      | 0, hk =>
        simp at hk
        subst hk
        exact List.mem_cons_self
      | 1, hk => simp at hk
      | k + 2, hk =>
        simp only [List.getElem?_cons_succ] at hk
        have := mm_en_in (X := X) t (i + 2) k v hk
        rw [show i + 2 + k = i + (k + 2) by omega] at this
        exact List.mem_cons_of_mem _ this
    · rw [if_neg hc] at hk ⊢
      match k, hk with
      | 0, hk =>
        simp at hk
        subst hk
        exact List.mem_cons_self
      | k + 1, hk =>
        simp only [List.getElem?_cons_succ] at hk
        have := mm_en_in (X := X) t (i + 1) k v hk
        rw [show i + 1 + k = i + (k + 1) by omega] at this
        exact List.mem_cons_of_mem _ this
theorem mm_L0_in {X : mm_X} {as : List Value} {n i : Nat} {v : Value} (hk : (mm_L0 as n)[i]? = some (some v)) : (i, mx_cv X v) ∈ lv_args 0 (as.map (mx_cv X)) := by
  unfold mm_L0 at hk
  by_cases hl : i < (mm_en as).length
  · rw [List.getElem?_append_left hl] at hk
    have := mm_en_in (X := X) as 0 i v hk
    rw [Nat.zero_add] at this
    exact this
  · rw [List.getElem?_append_right (by omega)] at hk
    have := List.mem_of_getElem? hk
    rw [List.mem_replicate] at this
    exact absurd this.2 (by simp)
theorem mm_sl_len {X : mm_X} (as : List Value) : (lg_sl (as.map (mx_cv X))).length = (mm_en as).length := by
  induction as with
  | nil => rfl
  | cons a t ih =>
    have e1 : lg_sl (mx_cv X a :: t.map (mx_cv X)) = (if (mx_cv X a).category = 2 then [.val (mx_cv X a), .second] else [.val (mx_cv X a)]) ++ lg_sl (t.map (mx_cv X)) := by simp [lg_sl]
    rw [List.map_cons, e1, List.length_append, ih, mx_cv_cat, mm_en]
    by_cases hc : a.category = 2
    · rw [if_pos hc, if_pos hc]; simp; omega
    · rw [if_neg hc, if_neg hc]; simp; omega
theorem mm_body {as : List Value} (hh : my_h M = []) (hpl : plainName (my_y M).cls = true) (hlen : (mm_en as).length ≤ my_L M) (hL : mm_L0 as (my_L M) = L) (K : mm_E2 F G M 0 L [] h o lf) : mm_R2 F G M as h o lf := by
  intro x hx hF
  obtain ⟨k1, k2, k3⟩ := K x hx hF
  refine ⟨k1, k2, fun l X hl => ?_⟩
  refine vx_ofW (cc := my_b M) (maxL := my_L M) (ret := my_r M) (ws' := mm_gw) hpl (by rw [my_ws, hh]) ?_
  intro p e s m args below meth c s₁ B hml hte hPc
  obtain ⟨rfl, hP, hE, hsz⟩ := hPc
  have hts := atoms_spec (ws := my_ws M) B.pre
  have hl0 := lv_entry (as.map (mx_cv X)) (n := my_L M) (by rw [mm_sl_len]; exact hlen)
  rw [lg_entry_eq]
  generalize (lg_sl (as.map (mx_cv X)) ++ List.replicate (my_L M - (lg_sl (as.map (mx_cv X))).length) Slot.unset).toArray = ls at hl0 ⊢
  have hLH : mm_LH X ls (my_L M) L := ⟨hl0.1, hl0.2.1, fun i v hv => by rw [← hL] at hv; exact hl0.2.2 _ (mm_L0_in hv)⟩
  have z := k3 X p l e (headSpec (my_ws M) { frames := my_f M, cells := mh_c (lf x).2 - mh_c h, slots := mh_w (lf x).2 - mh_w h, locals := my_w M }).room s m (as.map (mx_cv X)).toArray below meth c
    ⟨hl, B.exec, B.bytes, B.returns, hml, findClass_of_methodNamed B.named, B.notSynchronized, fun w hw => hts w (List.mem_cons_of_mem _ hw), hE, Or.inr (by rw [hh]; exact List.eq_nil_iff_forall_not_mem.mpr (fun x hx => hte x hx)), fun hn => (name_of_methodNamed B.named B.method).1.trans hn, Nat.le_refl _, Nat.le_refl _⟩
    (mh_c h) (mh_w h) hsz (Nat.le_refl _) (Nat.le_refl _) (Nat.le_refl _) (Nat.le_refl _) s.heap [] ls hP va_S.rf hLH
  rw [Nat.sub_self, Nat.sub_self] at z
  exact z
-- calls
theorem mm_sz {p : Program} {l : Launch} {e : Env} {R : Room} {s : State} {m : MethodId} {args : Array Value} {below : List Frame} {meth : Method} {c : Code} {H : Heap} {locs : List Loc} {cells slots : Nat} {Q : State → Prop} {g : JFrame}
    (k : H.size ≤ s.heap.size + cells → W p l e R s m args below meth c H locs cells slots Q g) : W p l e R s m args below meth c H locs cells slots Q g := fun T hT X => k (by have := X.same.2.2.1; rw [← hT]; exact this) T hT X
theorem mm_run {p : Program} {l : Launch} {e : Env} {R : Room} {s : State} {m : MethodId} {args : Array Value} {below : List Frame} {meth : Method} {c : Code} {H : Heap} {locs : List Loc} {cells slots mc ms : Nat} {Q : State → Prop} {ls : Array Slot} {st0 rest : List Value} {X : mm_X} {r : mm_O} {a : Array Value}
    (hr : vx_Run p l e R s m args below meth c H locs cells slots mc ms (F0 m pc ls st0) rest (mm_Q X r a) (mm_V X r) (mm_A X)) (hS : va_S (mm_A X) s.heap H locs)
    (kv : ∀ v, r.1 = .inl v → ∀ H1 locs1, mm_P X r.2 H1 → va_S (mm_A X) s.heap H1 locs1 → W p l e R s m args below meth c H1 locs1 (cells + mc) (slots + ms) Q (F0 m (pc + 3) ls ((v.map (mx_cv X)).toList ++ rest)))
    (kx : ∀ E, r.1 = .inr E → ∀ H1 locs1 q9 ce, mm_P X r.2 H1 → va_S (mm_A X) s.heap H1 locs1 → H1[q9]? = some ce → ce.vm = .none → s.vm.findClass E = some ce.cls → vx_W p l e R s m args below meth c H1 locs1 (cells + mc) (slots + ms) Q (F0 m pc ls rest) q9) :
    W p l e R s m args below meth c H locs cells slots Q (F0 m pc ls st0) := by
  intro T hT X9
  rcases hr T hT X9 with ⟨v, st₀, t, T', L9, h0, X', hL, e1, e2, ⟨⟨v9, hv1, hv2⟩, hP, hF⟩, sx⟩ | ⟨q, st₀, t, T', L9, E, ce, h0, X', hL, e1, e2, ⟨hv1, hP, hF⟩, hce, hcv, hcl, sx⟩
  · obtain ⟨k1, k2, k3⟩ := vx_keep h0 e1 hS (fun _ _ h => h) (fun _ h => h) hL hF
    have hv3 : v = v9.map (mx_cv X) := by
      have := hv2
      simpa using this
    rw [hv3] at sx
    obtain ⟨t2, a1, b1⟩ := kv v9 hv1 T'.heap (locs ++ L9) (by rw [e1]; exact hP) k3 T' rfl X'
    exact ⟨t2, sx t2 a1, b1⟩
  · obtain ⟨k1, k2, k3⟩ := vx_keep h0 e1 hS (fun _ _ h => h) (fun _ h => h) hL hF
    obtain ⟨t2, a1, b1⟩ := kx E hv1 T'.heap (locs ++ L9) q ce (by rw [e1]; exact hP) k3 (by rw [e1]; exact hce) hcv hcl T' rfl X'
    exact ⟨t2, sx.trans a1, b1⟩
/-- a contract's start, as the kit's call rows want it -/
def mm_Pc (X : mm_X) (as : List Value) (h : mm_H) : Array Value → State → Prop := fun v U => v = (as.map (mx_cv X)).toArray ∧ mm_P X h U.heap ∧ mm_E X U U.heap ∧ U.heap.size ≤ mx_base X + mh_c h
theorem mm_Pc_blind {X : mm_X} {as : List Value} : FrameBlind (mm_Pc X as h) := fun a U g mk ⟨q1, q2, q3, q4⟩ => ⟨q1, q2, mm_E_calling q3, q4⟩
theorem mm_Pc_at {X : mm_X} {as : List Value} {s : State} {H : Heap} {locs : List Loc} (hE : mm_E X s s.heap) (hP : mm_P X h H) (hS : va_S (mm_A X) s.heap H locs) (hz : H.size ≤ mx_base X + mh_c h) : ∀ U : State, U.heap = H → s.WarmedH U.vm → mm_Pc X as h (as.map (mx_cv X)).toArray U :=
  fun U hU hW => ⟨rfl, by rw [hU]; exact hP, mm_E_step hE hW hU hS, by rw [hU]; exact hz⟩
theorem mm_good {N : mm_M} {n : Nat} (hm : mm_mB N n) : ∀ w ∈ my_ws N, w ∈ mm_gw ∧ ((w.onTables && w.keeps) = true ∨ ∃ ty, w = .arrayClass ty) := by
  intro w hw
  have h1 : w ∈ mm_gw := by
    rw [my_ws, hm.1] at hw
    rcases List.mem_cons.mp hw with rfl | hw
    · exact hm.2.1
    · exact hw
  exact ⟨h1, good_of_word (List.mem_filter.mp h1).2⟩
theorem mm_code_in {N : mm_M} {n : Nat} (hm : mm_mB N n) : Cond.code (my_y N) (my_b N) (my_L N) (my_r N) ∈ my_ws N := by
  rw [my_ws, hm.1]
  exact List.mem_cons_self
theorem mm_plen {N : mm_M} {n : Nat} (hm : mm_mB N n) : ∀ sig, parseMethodDescriptor (my_y N).desc = some sig → n = sig.parameters.length := by
  intro sig hs
  have h2 := hm.2.2.2.2
  rw [hs] at h2
  exact (Option.some.inj h2).symm
/-- the core of a call: how the machine runs it, and what the answers lead to -/
theorem mm_call {N : mm_M} {F' G' F'' : mm_H → Prop} {σ : Type} {oN : Option σ} {lN : σ → mm_O} {kN : σ → Option τ} {as st0 rest : List Value} {pc3 : Nat} (hp : pc + 3 = pc3) (hF' : F h → F' h) (hR : mm_R2 F' G' N as h oN lN)
    (hrun : ∀ (r : mm_O) (X : mm_X) (p : Program) (l : Launch) (e : Env) (R : Room) (s : State) (m : MethodId) (args : Array Value) (below : List Frame) (meth : Method) (c : Code) (H : Heap) (locs : List Loc) (ls : Array Slot) (cells slots : Nat), mm_CX M X p l R s m args meth c → mm_P X h H → va_S (mm_A X) s.heap H locs → mm_LH X ls (my_L M) L → F h → H.size ≤ mx_base X + mh_c h →
      vx_Met l (my_y N) (my_ws N) { frames := my_f N, cells := mh_c r.2 - mh_c h, slots := mh_w r.2 - mh_w h, locals := my_w N } (mm_Pc X as h) (mm_Q X r) (mm_V X r) (mh_c r.2 - mh_c h) (mh_w r.2 - mh_w h) (mm_A X) → cells + (mh_c r.2 - mh_c h) ≤ R.cells ∧ slots + (mh_w r.2 - mh_w h) ≤ R.slots →
      ∃ a : Array Value, vx_Run p l e R s m args below meth c H locs cells slots (mh_c r.2 - mh_c h) (mh_w r.2 - mh_w h) (F0 m pc ls (st0.map (mx_cv X))) (rest.map (mx_cv X)) (mm_Q X r a) (mm_V X r) (mm_A X))
    (hv : ∀ x, oN = some x → (∃ v h1, lN x = (.inl v, h1) ∧ (G' h1 → F'' h1) ∧ mm_E2 F'' G M pc3 L (v.toList ++ rest) h1 (kN x) lf) ∨
      (∃ E h1, lN x = (.inr E, h1) ∧ my_h M = [] ∧ (G' h1 → G h1) ∧ ∀ y, kN x = some y → lf y = (.inr E, h1))) : mm_E2 F G M pc L st0 h (oN.bind kN) lf := by
  subst hp
  intro y hy hF
  obtain ⟨x, hx, hkx⟩ := Option.bind_eq_some_iff.mp hy
  obtain ⟨n1, n2, n3⟩ := hR x hx (hF' hF)
  rcases hv x hx with ⟨v, h1, e1, hg, K⟩ | ⟨E, h1, e1, hnh, hg, K⟩
  · rw [e1] at n1 n2
    obtain ⟨k1, k2, k3⟩ := K y hkx (hg n2)
    refine ⟨mm_le_trans n1 k1, k2, fun X p l e R s m args below meth c hC k0 w0 h0 b1 b2 b3 b4 H locs ls hP hS hL => ?_⟩
    have n1' : mh_c h ≤ mh_c h1 ∧ mh_w h ≤ mh_w h1 := n1
    have k1' : mh_c h1 ≤ mh_c (lf y).2 ∧ mh_w h1 ≤ mh_w (lf y).2 := k1
    refine mm_sz fun hsz => ?_
    obtain ⟨a, hrn⟩ := hrun (lN x) X p l e R s m args below meth c H locs ls (mh_c h - k0) (mh_w h - w0) hC hP hS hL hF (by omega) (n3 l X hC.1) (by rw [e1]; constructor <;> dsimp only <;> omega)
    refine mm_run hrn hS (fun v9 hv9 H1 locs1 hP1 hS1 => ?_) (fun E9 hE9 => by rw [e1] at hE9; cases hE9)
    rw [e1] at hv9 hP1
    cases hv9
    have z := k3 X p l e R s m args below meth c hC k0 w0 h0 (by omega) (by omega) b3 b4 H1 locs1 ls hP1 hS1 hL
    rw [e1]
    dsimp only
    rw [show mh_c h - k0 + (mh_c h1 - mh_c h) = mh_c h1 - k0 by omega, show mh_w h - w0 + (mh_w h1 - mh_w h) = mh_w h1 - w0 by omega]
    rw [List.map_append] at z
    cases v with
    | none => exact z
    | some w => exact z
  · have e2 := K y hkx
    rw [e1] at n1 n2
    have n1' : mh_c h ≤ mh_c h1 ∧ mh_w h ≤ mh_w h1 := n1
    refine ⟨by rw [e2]; exact n1, by rw [e2]; exact hg n2, fun X p l e R s m args below meth c hC k0 w0 h0 b1 b2 b3 b4 H locs ls hP hS hL => ?_⟩
    rw [e2] at b3 b4 ⊢
    dsimp only at b3 b4 ⊢
    refine mm_sz fun hsz => ?_
    obtain ⟨a, hrn⟩ := hrun (lN x) X p l e R s m args below meth c H locs ls (mh_c h - k0) (mh_w h - w0) hC hP hS hL hF (by omega) (n3 l X hC.1) (by rw [e1]; constructor <;> dsimp only <;> omega)
    refine mm_run hrn hS (fun v9 hv9 => by rw [e1] at hv9; cases hv9) (fun E9 hE9 H1 locs1 q9 ce hP1 hS1 g1 g2 g3 => ?_)
    rw [e1] at hE9 hP1
    cases hE9
    rw [e1]
    dsimp only
    have hte : c.exceptionTable.toList = tableOf (my_h M) := hC.2.2.2.2.2.2.2.2.2.1.elim (fun z => by rw [hnh] at z; cases z) id
    rw [hnh] at hte
    refine vx_out (fun x hx => by rw [hte] at hx; cases hx) hC.2.2.2.2.2.2.1 g1 g2 g3 (fun t ht hA => ⟨rfl, by rw [ht]; exact hP1, hS1.F ht⟩) hS1.2.2 (by omega) (by omega)
theorem mm_recv {X : mm_X} {s : State} {H : Heap} {q ci : Nat} {C : String} (hE : mm_E X s s.heap) (hP : mm_P X h H) (hk : mm_kk h q = (0, ci)) (hn : q < mh_n h) (hc : mm_cn ci = some C) : ∃ cell : Cell, H[mx_ad X q]? = some cell ∧ cell.vm.isStatics = false ∧ s.vm.findClass C = some cell.cls := by
  obtain ⟨r, h1, h2⟩ := Option.map_eq_some_iff.mp hc
  subst h2
  rw [mx_ad_lt (Nat.lt_of_lt_of_le hn hP.2.1)]
  exact va_recv hE.2.2.1 hP.1 h1 (by rw [mm_ws_get hn, mm_cell_o hk])
variable {N : mm_M} {F' G' F'' : mm_H → Prop} {σ : Type} {oN : Option σ} {lN : σ → mm_O} {kN : σ → Option τ} {As : List Value} {q ci idx n : Nat}
theorem me_callV (d : decode (my_b M) pc = .ok (.invokevirtual idx, 3)) (hp : pc + 3 = pc') (hm : mm_mV N n) (hln : As.length = n) (hk : mm_lk (my_y M).cls idx N) (hq : F h → mm_kk h q = (0, ci)) (hcn : mm_cn ci = some (my_y N).cls) (hn : F h → q < mh_n h)
    (hfr : my_f N + 1 ≤ my_f M ∧ 8 + (my_L N + 11) + my_w N ≤ my_w M) (hcat : (st.map fun v => v.category).sum ≤ 8) (hF' : F h → F' h) (hR : mm_R2 F' G' N (.ref q :: As) h oN lN)
    (hv : ∀ x, oN = some x → (∃ v h1, lN x = (.inl v, h1) ∧ (G' h1 → F'' h1) ∧ mm_E2 F'' G M pc' L (v.toList ++ st) h1 (kN x) lf) ∨
      (∃ E h1, lN x = (.inr E, h1) ∧ my_h M = [] ∧ (G' h1 → G h1) ∧ ∀ y, kN x = some y → lf y = (.inr E, h1))) : mm_E2 F G M pc L (As.reverse ++ .ref q :: st) h (oN.bind kN) lf := by
  refine mm_call hp hF' hR (fun r X p l e R s m args below meth c H locs ls cells slots hC hP hS hL hF hsz hM hrm => ?_) hv
  obtain ⟨hl, hx, hb, hr', hml, hown, hlk, hts, hE, hte, hin0, hRf, hRl⟩ := hC
  have hrc := mm_recv hE hP (hq hF) (hn hF) hcn
  have hpay := pay_in hts (mm_good hm.1)
  refine ⟨(Value.ref (mx_ad X q) :: As.map (mx_cv X)).toArray, ?_⟩
  rcases hk with hk | ⟨host, hk⟩
  · exact vx_runV (As := As.map (mx_cv X)) (Ts := mm_gw) ⟨hx, hb, hml, hown, hts⟩ hM ⟨⟨rfl, rfl, by show my_f N + 1 ≤ _; omega, by show 8 + (my_L N + 11) + my_w N ≤ _; omega, hpay, mm_code_in hm.1, hts _ hm.1.2.1, hts _ hm.1.2.2.1, hm.1.2.2.2.1, mm_plen hm.1, hts _ hk⟩, hts _ hm.2.1, hts _ hm.2.2⟩
      ⟨mm_Pc_blind, hrc, mm_Pc_at hE hP hS hsz⟩ rfl (by rw [List.length_map]; exact hln) hL.1 (by rw [List.map_append, List.map_reverse]; rfl) (by show 2 * 0 + _ ≤ 8; rw [mx_cats]; omega) d hrm
  · exact vx_runVN (As := As.map (mx_cv X)) (Ts := mm_gw) ⟨hx, hb, hml, hown, hts⟩ hM ⟨⟨⟨rfl, rfl, by show my_f N + 1 ≤ _; omega, by show 8 + (my_L N + 11) + my_w N ≤ _; omega, hpay, mm_code_in hm.1⟩, hts _ hm.1.2.1, hts _ hm.1.2.2.1, hm.1.2.2.2.1, mm_plen hm.1, va_Nw.use rfl (hE.2.2.2.2.2.2.1 _ hk rfl)⟩, hts _ hm.2.1, hts _ hm.2.2⟩
      ⟨mm_Pc_blind, hrc, mm_Pc_at hE hP hS hsz⟩ rfl (by rw [List.length_map]; exact hln) hL.1 (by rw [List.map_append, List.map_reverse]; rfl) (by show 2 * 0 + _ ≤ 8; rw [mx_cats]; omega) d hrm
theorem me_callS (d : decode (my_b M) pc = .ok (.invokestatic idx, 3)) (hp : pc + 3 = pc') (hm : mm_mS N n) (hln : As.length = n) (hk : mm_lk (my_y M).cls idx N)
    (hfr : my_f N + 1 ≤ my_f M ∧ 8 + (my_L N + 11) + my_w N ≤ my_w M) (hcat : (st.map fun v => v.category).sum ≤ 8) (hF' : F h → F' h) (hR : mm_R2 F' G' N As h oN lN)
    (hv : ∀ x, oN = some x → (∃ v h1, lN x = (.inl v, h1) ∧ (G' h1 → F'' h1) ∧ mm_E2 F'' G M pc' L (v.toList ++ st) h1 (kN x) lf) ∨
      (∃ E h1, lN x = (.inr E, h1) ∧ my_h M = [] ∧ (G' h1 → G h1) ∧ ∀ y, kN x = some y → lf y = (.inr E, h1))) : mm_E2 F G M pc L (As.reverse ++ st) h (oN.bind kN) lf := by
  refine mm_call hp hF' hR (fun r X p l e R s m args below meth c H locs ls cells slots hC hP hS hL hF hsz hM hrm => ?_) hv
  obtain ⟨hl, hx, hb, hr', hml, hown, hlk, hts, hE, hte, hin0, hRf, hRl⟩ := hC
  have hpay := pay_in hts (mm_good hm.1)
  refine ⟨(As.map (mx_cv X)).toArray, ?_⟩
  rcases hk with hk | ⟨host, hk⟩
  · exact vx_runS (As := As.map (mx_cv X)) (Ts := mm_gw) ⟨hx, hb, hml, hown, hts⟩ hM ⟨⟨rfl, rfl, by show my_f N + 1 ≤ _; omega, by show 8 + (my_L N + 11) + my_w N ≤ _; omega, hpay, mm_code_in hm.1, hts _ hm.1.2.1, hts _ hm.1.2.2.1, hm.1.2.2.2.1, mm_plen hm.1, hts _ hk⟩, hts _ hm.2⟩
      ⟨mm_Pc_blind, mm_Pc_at hE hP hS hsz⟩ rfl (by rw [List.length_map]; exact hln) hL.1 (by rw [List.map_append, List.map_reverse]) (by show 2 * 0 + _ ≤ 8; rw [mx_cats]; omega) d hrm
  · exact vx_runSN (As := As.map (mx_cv X)) (Ts := mm_gw) ⟨hx, hb, hml, hown, hts⟩ hM ⟨⟨⟨rfl, rfl, by show my_f N + 1 ≤ _; omega, by show 8 + (my_L N + 11) + my_w N ≤ _; omega, hpay, mm_code_in hm.1⟩, hts _ hm.1.2.1, hts _ hm.1.2.2.1, hm.1.2.2.2.1, mm_plen hm.1, va_Nw.use rfl (hE.2.2.2.2.2.2.1 _ hk rfl)⟩, hts _ hm.2, trivial⟩
      ⟨mm_Pc_blind, mm_Pc_at hE hP hS hsz⟩ rfl (by rw [List.length_map]; exact hln) hL.1 (by rw [List.map_append, List.map_reverse]) (by show 2 * 0 + _ ≤ 8; rw [mx_cats]; omega) d hrm
theorem me_callI (d : decode (my_b M) pc = .ok (.invokespecial idx, 3)) (hp : pc + 3 = pc') (hm : mm_mI N n) (hln : As.length = n) (hk : mm_lk (my_y M).cls idx N)
    (hfr : my_f N + 1 ≤ my_f M ∧ 8 + (my_L N + 11) + my_w N ≤ my_w M) (hcat : (st.map fun v => v.category).sum ≤ 8) (hF' : F h → F' h) (hR : mm_R2 F' G' N (.ref q :: As) h oN lN)
    (hv : ∀ x, oN = some x → (∃ v h1, lN x = (.inl v, h1) ∧ (G' h1 → F'' h1) ∧ mm_E2 F'' G M pc' L (v.toList ++ st) h1 (kN x) lf) ∨
      (∃ E h1, lN x = (.inr E, h1) ∧ my_h M = [] ∧ (G' h1 → G h1) ∧ ∀ y, kN x = some y → lf y = (.inr E, h1))) : mm_E2 F G M pc L (As.reverse ++ .ref q :: st) h (oN.bind kN) lf := by
  refine mm_call hp hF' hR (fun r X p l e R s m args below meth c H locs ls cells slots hC hP hS hL hF hsz hM hrm => ?_) hv
  obtain ⟨hl, hx, hb, hr', hml, hown, hlk, hts, hE, hte, hin0, hRf, hRl⟩ := hC
  have hpay := pay_in hts (mm_good hm.1)
  have hcode := mm_code_in hm.1
  have hcode2 := hts _ hm.1.2.1
  rw [hm.2.1] at hcode hcode2
  refine ⟨(Value.ref (mx_ad X q) :: As.map (mx_cv X)).toArray, ?_⟩
  rcases hk with hk | ⟨host, hk⟩
  · exact vx_runI (As := As.map (mx_cv X)) (Ts := mm_gw) ⟨hx, hb, hml, hown, hts⟩ hM ⟨⟨rfl, rfl, by show my_f N + 1 ≤ _; omega, by show 8 + (my_L N + 11) + my_w N ≤ _; omega, hpay, hcode, hcode2, hts _ hm.1.2.2.1, hm.1.2.2.2.1, mm_plen hm.1, hts _ hk⟩, hm.2.2.1, hts _ hm.2.2.2⟩
      ⟨mm_Pc_blind, mm_Pc_at hE hP hS hsz⟩ rfl (by rw [List.length_map]; exact hln) hL.1 (by rw [List.map_append, List.map_reverse]; rfl) (by show 2 * 0 + _ ≤ 8; rw [mx_cats]; omega) d hrm
  · exact vx_runIN (As := As.map (mx_cv X)) (Ts := mm_gw) ⟨hx, hb, hml, hown, hts⟩ hM ⟨⟨⟨rfl, rfl, by show my_f N + 1 ≤ _; omega, by show 8 + (my_L N + 11) + my_w N ≤ _; omega, hpay, hcode⟩, hcode2, hts _ hm.1.2.2.1, hm.1.2.2.2.1, mm_plen hm.1, va_Nw.use rfl (hE.2.2.2.2.2.2.1 _ hk rfl)⟩, hm.2.2.1, hts _ hm.2.2.2⟩
      ⟨mm_Pc_blind, mm_Pc_at hE hP hS hsz⟩ rfl (by rw [List.length_map]; exact hln) hL.1 (by rw [List.map_append, List.map_reverse]; rfl) (by show 2 * 0 + _ ≤ 8; rw [mx_cats]; omega) d hrm
end MMC

section MML2
/-! the law, from its first instruction (gen94.py) -/
theorem mm_chk_360 {h : mm_H} (hc : mm_chk 360 7 h = true) : mm_SQ h := ⟨7, mm_chk_of (by decide) hc⟩
section
variable {τ : Type} {F G F' : mm_H → Prop} {M : mm_M} {pc pc' : Nat} {L : List (Option Value)} {st : List Value} {h : mm_H} {o : Option τ} {lf : τ → mm_O}
theorem me_newaJS {t N q0 : Nat} {n : Int32} (d : decode (my_b M) pc = .ok (.newarray .long, 2)) (hp : pc + 2 = pc') (hq : mh_n h = q0) (hk : mm_kd q0 = (t, N)) (hn : ¬ n < 0) (hN : n.toNatClampNeg = N) (hbig : N ≤ 60000) (hFK : F h → mh_c h = mh_n h) (hF' : F h → F' (ms_N h N)) (K : mm_E2 F' G M pc' L (.ref q0 :: st) (ms_N h N) o lf) (ht : t % 10 = 4 := by decide) : mm_E2 F G M pc L (.int n :: st) h o lf := by
  subst hq
  exact me_newaJ d hp hk hn hN hbig hFK hF' K ht
theorem me_newaDS {t N q0 : Nat} {n : Int32} (d : decode (my_b M) pc = .ok (.newarray .double, 2)) (hp : pc + 2 = pc') (hq : mh_n h = q0) (hk : mm_kd q0 = (t, N)) (hn : ¬ n < 0) (hN : n.toNatClampNeg = N) (hbig : N ≤ 60000) (hFK : F h → mh_c h = mh_n h) (hF' : F h → F' (ms_N h N)) (K : mm_E2 F' G M pc' L (.ref q0 :: st) (ms_N h N) o lf) (ht : t % 10 = 5 := by decide) : mm_E2 F G M pc L (.int n :: st) h o lf := by
  subst hq
  exact me_newaD d hp hk hn hN hbig hFK hF' K ht
end
def gL_entry (h : mm_H) : Option (Bool × mm_H) :=
if mh_n h = 0 then
(some (ms_N h 11)).bind (fun (h2 : mm_H) =>
(gX10_init h2).bind (fun (h3 : mm_H) =>
if mh_n h3 = 352 then
(some (ms_N h3 15)).bind (fun (h6 : mm_H) =>
(gX11_init h6).bind (fun (h7 : mm_H) =>
if mh_n h7 = 358 then
(some (ms_N h7 1)).bind (fun (h10 : mm_H) =>
if mh_n h10 = 359 then
(some (ms_N h10 1)).bind (fun (h12 : mm_H) =>
if mm_chk 360 7 h12 = true then gL_loop mm_F 0 h12 else none) else none) else none)) else none)) else none
theorem rL_entry (h : mm_H) : mm_E2 mm_K mm_SQ mL_law 0 [some (.ref 360), none, none, none, none, none, none, none, none] [] h (gL_entry h) lf_ze := by
  unfold gL_entry
  refine mm_guard (fun c1 => ?_)
  refine me_newS (F' := mm_K) (pc' := 3) (N := 11) (ci := 10) (q0 := 0) dL_law_0 rfl nkL_8 rfl c1 kd_0 (fun z => z) mm_K_N ?_
  refine mm_bnd (ms_N h 11) (fun _ => [some (.ref 360), none, none, none, none, none, none, none, none]) (fun _ => [.ref 0]) (fun h2 => h2) (fun h2 => ?_)
  refine me_dup (pc' := 4) dL_law_3 rfl rfl ?_
  refine me_callI (As := []) (st := [.ref 0]) (F' := mm_K) (G' := mm_K) (F'' := mm_K) (pc' := 7) dL_law_4 rfl mfX10_init rfl lkL_176 ⟨Nat.le_of_ble_eq_true rfl, Nat.le_of_ble_eq_true rfl⟩ (Nat.le_of_ble_eq_true rfl) (fun z => z) (rX10_init h2 ) (fun h3 e4 => Or.inl ⟨_, _, rfl, fun z => z, ?_⟩)
  show mm_E2 _ _ _ _ _ [.ref 0] h3 _ _
  refine me_astore_n (pc' := 8) (i := 1) (L' := [some (.ref 360), some (.ref 0), none, none, none, none, none, none, none]) dL_law_7 rfl rfl (Nat.le_of_ble_eq_true rfl) (Nat.le_of_ble_eq_true rfl) rfl ?_
  refine mm_guard (fun c5 => ?_)
  refine me_newS (F' := mm_K) (pc' := 11) (N := 15) (ci := 11) (q0 := 352) dL_law_8 rfl nkL_177 rfl c5 kd_352 (fun z => z) mm_K_N ?_
  refine mm_bnd (ms_N h3 15) (fun _ => [some (.ref 360), some (.ref 0), none, none, none, none, none, none, none]) (fun _ => [.ref 352]) (fun h6 => h6) (fun h6 => ?_)
  refine me_dup (pc' := 12) dL_law_11 rfl rfl ?_
  refine me_callI (As := []) (st := [.ref 352]) (F' := mm_K) (G' := mm_K) (F'' := mm_K) (pc' := 15) dL_law_12 rfl mfX11_init rfl lkL_179 ⟨Nat.le_of_ble_eq_true rfl, Nat.le_of_ble_eq_true rfl⟩ (Nat.le_of_ble_eq_true rfl) (fun z => z) (rX11_init h6 ) (fun h7 e8 => Or.inl ⟨_, _, rfl, fun z => z, ?_⟩)
  show mm_E2 _ _ _ _ _ [.ref 352] h7 _ _
  refine me_astore_n (pc' := 16) (i := 2) (L' := [some (.ref 360), some (.ref 0), some (.ref 352), none, none, none, none, none, none]) dL_law_15 rfl rfl (Nat.le_of_ble_eq_true rfl) (Nat.le_of_ble_eq_true rfl) rfl ?_
  refine me_iconst (pc' := 17) (v := 1) dL_law_16 rfl kc_i1 ?_
  refine mm_guard (fun c9 => ?_)
  refine me_newaJS (F' := mm_K) (pc' := 19) (N := 1) (q0 := 358) dL_law_17 rfl c9 kd_358 (by decide) rfl (by decide) (fun z => z) mm_K_N ?_
  refine mm_bnd (ms_N h7 1) (fun _ => [some (.ref 360), some (.ref 0), some (.ref 352), none, none, none, none, none, none]) (fun _ => [.ref 358]) (fun h10 => h10) (fun h10 => ?_)
  refine me_astore_n (pc' := 20) (i := 3) (L' := [some (.ref 360), some (.ref 0), some (.ref 352), some (.ref 358), none, none, none, none, none]) dL_law_19 rfl rfl (Nat.le_of_ble_eq_true rfl) (Nat.le_of_ble_eq_true rfl) rfl ?_
  refine me_iconst (pc' := 21) (v := 1) dL_law_20 rfl kc_i1 ?_
  refine mm_guard (fun c11 => ?_)
  refine me_newaDS (F' := mm_K) (pc' := 23) (N := 1) (q0 := 359) dL_law_21 rfl c11 kd_359 (by decide) rfl (by decide) (fun z => z) mm_K_N ?_
  refine mm_bnd (ms_N h10 1) (fun _ => [some (.ref 360), some (.ref 0), some (.ref 352), some (.ref 358), none, none, none, none, none]) (fun _ => [.ref 359]) (fun h12 => h12) (fun h12 => ?_)
  refine me_astore (pc' := 25) (i := 4) (L' := [some (.ref 360), some (.ref 0), some (.ref 352), some (.ref 358), some (.ref 359), none, none, none, none]) dL_law_23 rfl (Nat.le_of_ble_eq_true rfl) (Nat.le_of_ble_eq_true rfl) rfl ?_
  refine me_iconst (pc' := 26) (v := 0) dL_law_25 rfl kc_i0 ?_
  refine me_istore (pc' := 28) (i := 5) (L' := [some (.ref 360), some (.ref 0), some (.ref 352), some (.ref 358), some (.ref 359), some (.int 0), none, none, none]) dL_law_26 rfl (Nat.le_of_ble_eq_true rfl) (Nat.le_of_ble_eq_true rfl) rfl ?_
  refine mm_sw (F' := mm_SQ) mm_chk_360 (fun c => ?_)
  exact rL_loop mm_F 0 h12
end MML2

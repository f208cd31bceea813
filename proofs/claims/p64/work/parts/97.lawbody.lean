section PPZ2
/-! the law's body (gen97.py): what it makes, its loop's end -/
variable {h0 h1 : mm_H}
section
variable {τ : Type} {F G F' : mm_H → Prop} {M : mm_M} {pc pc' : Nat} {L : List (Option Value)} {st : List Value} {h : mm_H} {o : Option τ} {lf : τ → mm_O}
theorem mm_sup (k : F h → mm_E2 F G M pc L st h o lf) : mm_E2 F G M pc L st h o lf := fun x hx hF => k hF x hx hF
theorem me_newS2 {ci idx N q0 : Nat} (h0 : 352 ≤ q0) (hlt : q0 < mm_NN) (d : decode (my_b M) pc = .ok (.new idx, 3)) (hp : pc + 3 = pc') (hf : mm_nk (my_y M).cls idx ci) (hN : mm_Nl.getD ci 0 = N) (hq : mh_n h = q0) (hFK : F h → mh_c h = mh_n h) (hF' : F h → F' (ms_K h N 0 ci)) (K : mm_E2 F' G M pc' L (.ref q0 :: st) (ms_K h N 0 ci) o lf) : mm_E2 F G M pc L st h o lf := by
  subst hq
  exact me_newK h0 hlt d hp hf hN hFK hF' K
end
/-- the law, when the class is made as said -/
theorem lw_body (hn0 : mh_n h0 = 0) (hi : gX10_init (ms_N h0 11) = some h1) (hn1 : mh_n h1 = 352 ∧ mh_c h1 = 352) (hc1 : mm_chk 352 7 h1 = true) (hz1 : ∀ o, 352 ≤ o → o < 400 → ∀ k, mh_I h1 o k = 0) {A : sp_A} (H1 : ra_c A h1) (ok1 : sa_ok A) :
    ∃ h', mm_E2 mm_K (fun _ => True) mL_law 0 [some (.ref 400), none, none, none, none, none, none, none, none, none, none, none, none, none] [] h0 (some ((.inl true, h') : (Bool ⊕ String) × mm_H)) lf_zt ∧ mh_c h' ≤ 400 ∧ mh_w h' ≤ mh_w h1 + 2600 := by
  have hP : 0 < 1 + lp h1 0 4 ∧ 1 + lp h1 0 4 ≤ 4 := by
    have := lp_lt (h := h1) (k := 0) (b := 4) (by decide)
    omega
  have hB : lp h1 1 10 ≤ 9 := by
    have := lp_lt (h := h1) (k := 1) (b := 10) (by decide)
    omega
  generalize hPe : 1 + lp h1 0 4 = P at hP
  generalize hBe : lp h1 1 10 = B at hB
  obtain ⟨hs, g, m, W, rs⟩ := rL_setup hP.1 hP.2 hB hn1.1 hn1.2 hz1
  have hl0 : (tx_all h1 P B).length ≤ 300 := by
    have a1 := tx_P_len (fun k => lp h1 (2 + k) 40) P 0
    have a2 := tx_B_len P (fun k => lp h1 (7 + k) 268435456) B 0
    unfold tx_all
    rw [List.length_append, List.length_append]
    have a3 : tx_W.length = 10 := rfl
    omega
  have W' : sb_W h1 g m (tx_all h1 P B).length (fun j => (tx_all h1 P B).getD j 0) hs := W
  have g4 := sb_g4 W'
  obtain ⟨⟨zn, zc, zw⟩, -, -⟩ := sz_D W'
  have zI := sz_I W'
  have zT := sz_T W'
  have zq := sz_Sq W' (mm_chk_352 hc1)
  have zX := sz_Tx W'
  have Hz : ra_c A (ms_Z hs g (tx_all h1 P B).length) := by
    have hI : ∀ o, o < 352 → ∀ k, mh_I (ms_Z hs g (tx_all h1 P B).length) o k = mh_I h1 o k := fun o ho k => congrFun (zI.1 o ho).1 k
    have := ra_c_fr (D := fun z => decide (352 ≤ z)) (h' := (h1.1, mh_I (ms_Z hs g (tx_all h1 P B).length), mh_R h1, mh_J h1, mh_D h1)) H1 ⟨fun o ho k => hI o (by have := of_decide_eq_false ho; omega) k, rfl, rfl, rfl, rfl⟩ (fun q hq => decide_eq_false (by omega))
    exact ra_c_X this rfl
  obtain ⟨A2, h2, e2, H2, ok2, I2, -, f2⟩ := tw_say Hz ok1 (by omega) hl0 zT
  obtain ⟨A3, h3, e3, H3, ok3, I3, np3, dy3, f3⟩ := tx_load (h0 := h1) H2 ok2 hP.1 hP.2 hB I2
  have hc3 : h3.1 = (ms_Z hs g (tx_all h1 P B).length).1 := f3.2.1.trans f2.2.1
  have hn3 : mh_n h3 = 356 + g := (congrArg (fun z => z.1) hc3).trans zn
  have hk3 : mh_c h3 = 356 + g := (congrArg (fun z => z.2.1) hc3).trans zc
  have hw3 : mh_w h3 = mh_w (ms_Z hs g (tx_all h1 P B).length) := congrArg (fun z => z.2.2) hc3
  generalize hZ : ms_Z hs g (tx_all h1 P B).length = Z at *
  generalize hq : sz_q hs g (tx_all h1 P B).length = q at *
  obtain ⟨t1, t2, t3, t4⟩ := st_n h3 (356 + g)
  have HT : ra_c A3 (ms_T h3 (356 + g)) := ra_c_X H3 t4
  obtain ⟨h', e5, c5⟩ := lw_loop (o := 356 + g) (by omega) hP.1 24 mm_F 0 A3 _ HT ok3 I3 np3 (by omega) (by omega) (by decide)
  have e5' : gL_law_L61 (356 + g) (nI P) mm_F 0 (ms_T h3 (356 + g)) = some (.inl true, h') := e5
  have c5c : mh_c h' = mh_c h3 + 13 := (congrArg (fun z => z.2.1) c5).trans t2
  have c5w : mh_w h' = mh_w h3 + 235 := (congrArg (fun z => z.2.2) c5).trans t3
  have rsay : mm_R2 (mm_Sq q) (mm_Sq q) mL_say [.ref 0, .ref (354 + g)] Z (some (.inl true, h2)) lf_zt := by
    have r := rL_say (q := q) (354 + g) Z zX
    rw [e2] at r
    exact r
  have rload : mm_R2 (mm_Sq q) (mm_Sq (q.1, 1, q.2.2)) mX10_load [.ref 0] h2 (some (.inl (nI P), h3)) lf_it := by
    have r := rX10_load (q := q) h2
    rw [e3] at r
    exact r
  have rinit : mm_R2 mm_K mm_K mX10_init [.ref 0] (ms_N h0 11) (some h1) lf_v := by
    have r := rX10_init (ms_N h0 11)
    rw [hi] at r
    exact r
  refine ⟨h', ?_, by omega, by omega⟩
  refine me_newS (F' := mm_K) (pc' := 3) (q0 := 0) (N := 11) dL_law_0 rfl nkL_19 rfl hn0 rfl (fun z => z) (fun z => congrArg (· + 1) z) ?_
  refine me_dup (pc' := 4) dL_law_3 rfl rfl ?_
  refine me_callIt (As := []) (st := [.ref 0]) (F' := mm_K) (G' := mm_K) (F'' := mm_K) (pc' := 7) dL_law_4 rfl mfX10_init rfl lkL_119 ⟨Nat.le_of_ble_eq_true rfl, Nat.le_of_ble_eq_true rfl⟩ (Nat.le_of_ble_eq_true rfl) (fun z => z) rinit rfl (fun z => z) ?_
  show mm_E2 _ _ _ _ _ [.ref 0] h1 _ _
  refine me_astore_n (pc' := 8) (i := 1) (L' := [some (.ref 400), some (.ref 0), none, none, none, none, none, none, none, none, none, none, none, none]) dL_law_7 rfl rfl (Nat.le_of_ble_eq_true rfl) (Nat.le_of_ble_eq_true rfl) rfl ?_
  refine me_iconst (pc' := 9) (v := 1) dL_law_8 rfl kc_i1 ?_
  refine me_aload_n (pc' := 10) (i := 0) dL_law_9 rfl rfl rfl ?_
  refine me_iconst (pc' := 11) (v := 0) dL_law_10 rfl kc_i0 ?_
  refine me_iconst (pc' := 12) (v := 4) dL_law_11 rfl kc_i4 ?_
  refine me_callSt (As := [.ref 400, .int 0, .int 4]) (st := [.int 1]) (F' := mm_K) (G' := mm_K) (F'' := mm_K) (pc' := 15) dL_law_12 rfl mfL_pick rfl lkL_49 ⟨Nat.le_of_ble_eq_true rfl, Nat.le_of_ble_eq_true rfl⟩ (Nat.le_of_ble_eq_true rfl) (fun z => z) (rL_pickN (k := 0) (b := 4) (by decide) (by decide) (by decide) h1) rfl (fun z => z) ?_
  show mm_E2 _ _ _ _ _ [.int (nI (lp h1 0 4)), .int 1] h1 _ _
  refine me_iadd (pc' := 16) dL_law_15 rfl ?_
  rw [show ((1 + (nI (lp h1 0 4))) : Int32) = nI P from by rw [← hPe]; exact nI_add 1 _]
  refine me_istore_n (pc' := 17) (i := 2) (L' := [some (.ref 400), some (.ref 0), some (.int (nI P)), none, none, none, none, none, none, none, none, none, none, none]) dL_law_16 rfl rfl (Nat.le_of_ble_eq_true rfl) (Nat.le_of_ble_eq_true rfl) rfl ?_
  refine me_aload_n (pc' := 18) (i := 0) dL_law_17 rfl rfl rfl ?_
  refine me_iconst (pc' := 19) (v := 1) dL_law_18 rfl kc_i1 ?_
  refine me_bipush (pc' := 21) (v := 10) dL_law_19 rfl kc_b10 ?_
  refine me_callSt (As := [.ref 400, .int 1, .int 10]) (st := []) (F' := mm_K) (G' := mm_K) (F'' := mm_K) (pc' := 24) dL_law_21 rfl mfL_pick rfl lkL_49 ⟨Nat.le_of_ble_eq_true rfl, Nat.le_of_ble_eq_true rfl⟩ (Nat.le_of_ble_eq_true rfl) (fun z => z) (rL_pickN (k := 1) (b := 10) (by decide) (by decide) (by decide) h1) rfl (fun z => z) ?_
  show mm_E2 _ _ _ _ _ [.int (nI (lp h1 1 10))] h1 _ _
  rw [show ((nI (lp h1 1 10)) : Int32) = nI B from by rw [hBe]]
  refine me_istore_n (pc' := 25) (i := 3) (L' := [some (.ref 400), some (.ref 0), some (.int (nI P)), some (.int (nI B)), none, none, none, none, none, none, none, none, none, none]) dL_law_24 rfl rfl (Nat.le_of_ble_eq_true rfl) (Nat.le_of_ble_eq_true rfl) rfl ?_
  refine me_aload_n (pc' := 26) (i := 1) dL_law_25 rfl rfl rfl ?_
  refine me_aload_n (pc' := 27) (i := 0) dL_law_26 rfl rfl rfl ?_
  refine me_iload_n (pc' := 28) (i := 2) dL_law_27 rfl rfl rfl ?_
  refine me_iload_n (pc' := 29) (i := 3) dL_law_28 rfl rfl rfl ?_
  refine me_callSt (As := [.ref 400, .int (nI P), .int (nI B)]) (st := [.ref 0]) (F' := mm_K) (G' := mm_K) (F'' := mm_K) (pc' := 32) dL_law_29 rfl mfL_setup rfl lkL_120 ⟨Nat.le_of_ble_eq_true rfl, Nat.le_of_ble_eq_true rfl⟩ (Nat.le_of_ble_eq_true rfl) (fun z => z) rs rfl (fun z => z) ?_
  show mm_E2 _ _ _ _ _ [.ref (354 + g), .ref 0] Z _ _
  refine mm_E2_w (F' := mm_Sq q) (fun _ => zq) (fun _ z => z) ?_
  refine me_callSt (As := [.ref 0, .ref (354 + g)]) (st := []) (F' := (mm_Sq q)) (G' := (mm_Sq q)) (F'' := (mm_Sq q)) (pc' := 35) dL_law_32 rfl mfL_say rfl lkL_124 ⟨Nat.le_of_ble_eq_true rfl, Nat.le_of_ble_eq_true rfl⟩ (Nat.le_of_ble_eq_true rfl) (fun z => z) rsay rfl (fun z => z) ?_
  show mm_E2 _ _ _ _ _ [.int (mx_bi true)] h2 _ _
  refine mm_pos (c := true = true) (o2 := none) rfl (me_ifB_eq (pc' := 38) (tgt := 46) dL_law_35 (by decide) rfl (fun c => absurd rfl c) (fun _ => ?_))
  refine me_aload_n (pc' := 39) (i := 1) dL_law_38 rfl rfl rfl ?_
  refine me_callVt (As := []) (st := []) (F' := mm_Sq q) (G' := mm_Sq (q.1, 1, q.2.2)) (F'' := mm_Sq (q.1, 1, q.2.2)) (pc' := 42) dL_law_39 rfl mfX10_load rfl lkL_128 (mm_ks kd_0) rfl (mm_ltq kd_0) ⟨Nat.le_of_ble_eq_true rfl, Nat.le_of_ble_eq_true rfl⟩ (Nat.le_of_ble_eq_true rfl) (fun z => z) rload rfl (fun z => z) ?_
  show mm_E2 _ _ _ _ _ [.int (nI P)] h3 _ _
  refine me_iload_n (pc' := 43) (i := 2) dL_law_42 rfl rfl rfl ?_
  refine mm_pos (c := nI P = nI P) (o2 := none) (rfl : nI P = nI P) (me_icmp_eq (pc' := 46) (tgt := 48) dL_law_43 (by decide) rfl (fun _ => ?_) (fun c9 => absurd (rfl : nI P = nI P) c9))
  refine mm_sup (fun hs3 => ?_)
  refine me_newS2 (F' := mm_K) (pc' := 51) (N := 5) (q0 := 356 + g) (by omega) (show 356 + g < 400 by omega) dL_law_48 rfl nkL_131 rfl hn3 (fun _ => hk3.trans hn3.symm) (fun _ => congrArg (· + 1) (hk3.trans hn3.symm)) ?_
  refine me_dup (pc' := 52) dL_law_51 rfl rfl ?_
  refine me_aload_n (pc' := 53) (i := 1) dL_law_52 rfl rfl rfl ?_
  refine me_callIt (As := [.ref 0]) (st := [.ref (356 + g)]) (F' := mm_K) (G' := mm_K) (F'' := mm_K) (pc' := 56) dL_law_53 rfl mfX11_init rfl lkL_133 ⟨Nat.le_of_ble_eq_true rfl, Nat.le_of_ble_eq_true rfl⟩ (Nat.le_of_ble_eq_true rfl) (fun z => z) (rX11_init (h := ms_K h3 5 0 11) (o := 356 + g) (by omega) (show mh_n h3 + 1 = 356 + g + 1 by omega) (by rw [← hn3]; exact mm_kk_K (by omega)) (show 356 + g + 13 ≤ 400 by omega)) rfl (fun z => z) ?_
  show mm_E2 _ _ _ _ _ [.ref (356 + g)] (ms_T h3 (356 + g)) _ _
  refine me_astore (pc' := 58) (i := 4) (L' := [some (.ref 400), some (.ref 0), some (.int (nI P)), some (.int (nI B)), some (.ref (356 + g)), none, none, none, none, none, none, none, none, none]) dL_law_56 rfl (Nat.le_of_ble_eq_true rfl) (Nat.le_of_ble_eq_true rfl) rfl ?_
  refine me_iconst (pc' := 59) (v := 0) dL_law_58 rfl kc_i0 ?_
  refine me_istore (pc' := 61) (i := 5) (L' := [some (.ref 400), some (.ref 0), some (.int (nI P)), some (.int (nI B)), some (.ref (356 + g)), some (.int 0), none, none, none, none, none, none, none, none]) dL_law_59 rfl (Nat.le_of_ble_eq_true rfl) (Nat.le_of_ble_eq_true rfl) rfl ?_
  refine mm_E2_w (F' := mm_Sq (st_q h3 (356 + g))) (G' := mm_Sq (st_q h3 (356 + g))) (fun _ => st_Sq hs3 hn3 (by omega) (by omega)) (fun _ _ => trivial) ?_
  have r := rL_law_L61 (q := st_q h3 (356 + g)) (356 + g) (nI P) (st_St hn3 (by omega)) mm_F 0 (ms_T h3 (356 + g))
  rw [e5'] at r
  exact mm_maskB [true, true, true, false, true, true, false, false, false, false, false, false, false, false] r
end PPZ2

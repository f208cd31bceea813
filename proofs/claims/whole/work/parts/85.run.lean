section PRE
/-! scripts: the run -/
variable {A : sp_A} {h : mm_H}
theorem sq_run {C : sp_C} {L : List sp_Q} (hl : L.length ≤ 30) (hv : ∀ q, q ∈ L → sp_qv C q) : ∀ m k A, k + m = L.length → sa_ok A → sa_C A = C →
    ∃ S' v, (sp_ok S' ∧ sp_dy S' ≤ 9999) ∧ (∀ n h, m < n → ra_c A h → sc_Q L h → ∃ h', gX10_runScript_L56 n (nI k) h = some (.inl v, h') ∧ sc_S S' 21 h' ∧ po_fr po_st h h') ∧
      ∀ n h, m < n → ra_m A h → sm_Q L h → ∃ h', gX11_runScript_L42 (nI L.length) n (nI k) h = some (v, h') ∧ sm_S S' 0 h' ∧ po_fx h h' := by
  intro m
  induction m with
  | zero =>
    intro k A hk ok hC
    refine ⟨sa_S A, nI L.length, ⟨ok.1.2, ok.2.2.2.2.2.2.1⟩, fun n h hn H HQ => ?_, fun n h hn H HQ => ?_⟩
    · obtain ⟨n, rfl⟩ : ∃ k, n = k + 1 := ⟨n - 1, by omega⟩
      rw [gX10_runScript_L56, HQ.1, if_neg (nI_nlt (by omega) (by omega))]
      exact ⟨h, rfl, H.1.2, po_fr_refl h⟩
    · obtain ⟨n, rfl⟩ : ∃ k, n = k + 1 := ⟨n - 1, by omega⟩
      rw [gX11_runScript_L42, if_neg (nI_nlt (by omega) (by omega)), show k = L.length by omega]
      exact ⟨h, rfl, H.1.2, po_fx_refl h⟩
  | succ m ih =>
    intro k A hk ok hC
    have hkl : k < L.length := by omega
    have hq : L[k]? = some L[k] := List.getElem?_eq_getElem hkl
    have hv' : sp_qv (sa_C A) L[k] := by
      rw [hC]
      exact hv _ (List.getElem_mem hkl)
    rcases sq_all ok hv' with ⟨S1, ⟨a1, a2⟩, a3, a4⟩ | ⟨a3, a4⟩
    · obtain ⟨S', v, b1, b2, b3⟩ := ih (k + 1) (sa_set A S1) (by omega) (sa_set_ok ok a1 a2) hC
      refine ⟨S', v, b1, fun n h hn H HQ => ?_, fun n h hn H HQ => ?_⟩
      · obtain ⟨n, rfl⟩ : ∃ k, n = k + 1 := ⟨n - 1, by omega⟩
        obtain ⟨c1, h1, c2, c3, c4⟩ := a3 h L k H HQ hq (by omega)
        obtain ⟨h2, d1, d2, d3⟩ := b2 n h1 (by omega) (ra_c_set H c3 c4) (sc_Q_fr HQ c4 (po_st_no (by decide)) (po_st_no (by decide)) (po_st_no (by decide)))
        rw [gX10_runScript_L56, HQ.1, if_pos (nI_lt hkl (by omega)), c1, Option.bind_some, if_pos rfl, c2, Option.bind_some, nI_1, Option.bind_some]
        exact ⟨h2, d1, d2, po_fr_trans c4 d3⟩
      · obtain ⟨n, rfl⟩ : ∃ k, n = k + 1 := ⟨n - 1, by omega⟩
        obtain ⟨c1, h1, c2, c3, c4⟩ := a4 h L k H HQ hq (by omega)
        have HQ1 : sm_Q L h1 := fun i q hi => ⟨(c4.1.1 357 (by decide) _).trans (HQ i q hi).1, fun j a ha => (c4.1.1 357 (by decide) _).trans ((HQ i q hi).2 j a ha)⟩
        obtain ⟨h2, d1, d2, d3⟩ := b3 n h1 (by omega) (ra_m_set H ok c3 c4) HQ1
        rw [gX11_runScript_L42, if_pos (nI_lt hkl (by omega)), show nI k * 5 = nI (5 * k) by rw [show (5 : Int32) = nI 5 from rfl, pk_mul, Nat.mul_comm], c1, Option.bind_some, if_pos rfl, c2, Option.bind_some, nI_1, Option.bind_some]
        exact ⟨h2, d1, d2, po_fx_trans c4 d3⟩
    · refine ⟨sa_S A, nI k, ⟨ok.1.2, ok.2.2.2.2.2.2.1⟩, fun n h hn H HQ => ?_, fun n h hn H HQ => ?_⟩
      · obtain ⟨n, rfl⟩ : ∃ k, n = k + 1 := ⟨n - 1, by omega⟩
        obtain ⟨t, c1, c2⟩ := a3 h L k H HQ hq (by omega)
        rw [gX10_runScript_L56, HQ.1, if_pos (nI_lt hkl (by omega)), c1, Option.bind_some, if_neg c2]
        exact ⟨h, rfl, H.1.2, po_fr_refl h⟩
      · obtain ⟨n, rfl⟩ : ∃ k, n = k + 1 := ⟨n - 1, by omega⟩
        have c1 := a4 h L k H HQ hq (by omega)
        rw [gX11_runScript_L42, if_pos (nI_lt hkl (by omega)), show nI k * 5 = nI (5 * k) by rw [show (5 : Int32) = nI 5 from rfl, pk_mul, Nat.mul_comm], c1, Option.bind_some, if_neg Bool.false_ne_true]
        exact ⟨h, rfl, H.1.2, po_fx_refl h⟩
/-- the state after a script has been read -/
def sa_rd (A : sp_A) (e : Nat × Int32) : sp_A := (A.1, A.2.1, ((0, (sa_T A).2), sa_W A), e)
theorem sa_rd_ok (ok : sa_ok A) (e : Nat × Int32) : sa_ok (sa_rd A e) := by
  obtain ⟨o1, o2, o3, o4, o5, o6, o7⟩ := ok
  exact ⟨o1, o2, o3, ⟨Nat.zero_le _, o4.2⟩, o5, trivial, o7⟩
theorem po_sqe_no {z : Nat} (h : ¬ (z = 5 ∨ z = 6 ∨ z = 9 ∨ z = 11 ∨ z = 13)) : po_sqe z = false := decide_eq_false h
theorem ra_c_rd {h1 h2 : mm_H} {e : Nat × Int32} (H : ra_c A h) (hf : po_fw po_sqe h h1) (he : mh_I h1 5 1 = nI e.1 ∧ mh_I h1 5 2 = e.2) (hT : sc_T (0, (sa_T A).2) 1 h2) (h12 : po_fr (fun z => z == 1) h1 h2) : ra_c (sa_rd A e) h2 := by
  obtain ⟨b, eb, fb⟩ := po_fw_fr hf
  have f2 : po_fr (fun z => z == 1 || po_sqe z) h (h2.1, mh_I h2, mh_R h, mh_J h2, mh_D h2) := ⟨fun o ho k => by
    obtain ⟨h1', h2'⟩ := Bool.or_eq_false_iff.mp ho
    show mh_I h2 o k = _
    rw [h12.1 o h1', hf.1 o h2'], h12.2.1.trans hf.2.1, rfl, h12.2.2.2.1.trans hf.2.2.1, h12.2.2.2.2.trans hf.2.2.2⟩
  obtain ⟨⟨a1, a2⟩, ⟨a3, a4⟩, ⟨a5, a6⟩, a7, a8⟩ := H
  have hn : ∀ z, ¬ (z = 1 ∨ z = 5 ∨ z = 6 ∨ z = 9 ∨ z = 11 ∨ z = 13) → (z == 1 || po_sqe z) = false := fun z hz => by
    rw [po_sqe_no (by omega)]
    simp
    omega
  refine ra_c_X (h := (h2.1, mh_I h2, mh_R h, mh_J h2, mh_D h2)) ⟨⟨sc_C_fr a1 f2 (hn _ (by decide)) (hn _ (by decide)) (hn _ (by decide)) (hn _ (by decide)), sc_fr a2 f2 (fun q hq => ?_)⟩, ⟨sc_U_fr a3 f2 (fun q _ _ => hn q (by omega)), sc_V_fr a4 f2 (fun q _ _ => hn q (by omega))⟩, ⟨hT, sc_T_fr a6 f2 (hn _ (by decide)) (hn _ (by decide))⟩, ?_, ?_⟩ rfl
  · have hq' : 21 ≤ q ∧ q < 21 + 31 := of_decide_eq_true hq
    exact hn q (by omega)
  · exact (h12.1 5 (by decide) 1).trans he.1
  · exact (h12.1 5 (by decide) 2).trans he.2
theorem ra_m_rd {h' : mm_H} {e : Nat × Int32} (H : ra_m A h) (ok : sa_ok A) (h3 : ∀ k, mh_I h' 353 k = mh_I h 353 k) (h2 : ∀ k, (k < 4 ∨ (6 < k ∧ k < 9)) → mh_I h' 352 k = mh_I h 352 k) (h4 : mh_I h' 352 4 = 0) (h5 : mh_I h' 352 5 = nI e.1) (h6 : mh_I h' 352 6 = e.2) (k4 : ∀ k, mh_I h' 354 k = mh_I h 354 k) (k6 : ∀ k, mh_I h' 356 k = mh_I h 356 k) : ra_m (sa_rd A e) h' := by
  obtain ⟨⟨a1, a2⟩, ⟨a3, a4⟩, ⟨a5, a6⟩, a7, a8⟩ := H
  obtain ⟨⟨o1, o2⟩, ⟨o3, o4⟩, o5, o6, o7⟩ := ok
  refine ⟨⟨sm_C_blk o1 a1 (fun j _ => h3 _), sm_blk o2 a2 (fun j _ => h3 _)⟩, ⟨⟨(h2 2 (by decide)).trans a3.1, fun i S hi => ?_⟩, fun k hk => ⟨by rw [k4]; exact (a4 k hk).1, fun S hS => ?_⟩⟩, ⟨⟨h4, fun j hj => absurd hj (Nat.not_lt_zero _)⟩, ⟨(h2 8 (by decide)).trans a6.1, fun j hj => (k6 j).trans (a6.2 j hj)⟩⟩, h5, h6⟩
  · obtain ⟨u1, u2⟩ := a3.2 i S hi
    exact ⟨sm_blk (o4 S (List.mem_of_getElem? hi)) u1 (fun j _ => h3 _), sm_C_blk o1 u2 (fun j _ => h3 _)⟩
  · obtain ⟨u1, u2⟩ := (a4 k hk).2 S hS
    exact ⟨sm_blk (o5 k S hS) u1 (fun j _ => h3 _), sm_C_blk o1 u2 (fun j _ => h3 _)⟩
end PRE

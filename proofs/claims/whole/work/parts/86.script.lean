section PRF
/-! scripts: the call -/
variable {A : sp_A} {h : mm_H}
theorem oc_script (H : ra_c A h) (ok : sa_ok A) : (∃ L, sp_script (sa_T A) (sa_C A) = .inr L ∧ (∀ q, q ∈ L → sp_qv (sa_C A) q) ∧ L.length ≤ 30 ∧ ∃ h1 h2, gX3_parseScript 14 h = some (true, h1) ∧ gX8_cutTo 1 0 h1 = some h2 ∧ ra_c (sa_rd A (0, -1)) h2 ∧ sc_Q L h2 ∧ po_fw po_fc h h2) ∨
    (∃ e, sp_script (sa_T A) (sa_C A) = .inl e ∧ ∃ h1 h2, gX3_parseScript 14 h = some (false, h1) ∧ gX8_cutTo 1 0 h1 = some h2 ∧ ra_c (sa_rd A (e.1, nI e.2)) h2 ∧ po_fw po_fc h h2) := by
  obtain ⟨hl, hb⟩ := ok.2.2.2.1
  have HT := H.2.2.1.1
  have fin : ∀ h1, po_fw po_sqe h h1 → ∃ h2, gX8_cutTo 1 0 h1 = some h2 ∧ sc_T (0, (sa_T A).2) 1 h2 ∧ po_fr (fun z => z == 1) h1 h2 ∧ po_fw po_fc h h2 := by
    intro h1 f1
    have HT1 : sc_T (sa_T A) 1 h1 := ⟨(f1.1 1 (by decide) 1).trans HT.1, fun j hj => by rw [f1.1 2 (by decide)]; exact HT.2 j hj⟩
    obtain ⟨h2, e2, H2, f2⟩ := pc_cut (n := 0) HT1 (Nat.zero_le _) (by omega)
    refine ⟨h2, e2, H2, f2, po_fw_trans (po_fw_mono f1 (fun z hz => ?_)) (po_fw_of (po_fr_mono f2 (fun z hz => ?_)))⟩
    · have := po_fc_no hz
      exact po_sqe_no (by omega)
    · have := po_fc_no hz
      simp
      omega
  rcases tc_script HT hl hb H.1.1 ok.1.1 with ⟨L, a1, a2, a3, h1, a4, a5, a6, a7, f1⟩ | ⟨e, a1, h1, a4, E, f1⟩
  · obtain ⟨h2, e2, H2, f2, f3⟩ := fin h1 f1
    exact Or.inl ⟨L, a1, a2, a3, h1, h2, a4, e2, ra_c_rd (e := (0, -1)) H f1 ⟨a6, a7⟩ H2 f2, sc_Q_fr a5 f2 (by decide) (by decide) (by decide), f3⟩
  · obtain ⟨h2, e2, H2, f2, f3⟩ := fin h1 f1
    exact Or.inr ⟨e, a1, h1, h2, a4, e2, ra_c_rd (e := (e.1, nI e.2)) H f1 E H2 f2, f3⟩
theorem tm_qx_fm {e : Bool} {a b : mm_H} (h : tm_qx e a b) : po_fr po_fm a b := po_fr_mono h.1 (fun z hz => by
  have hz' : ¬ (352 ≤ z ∧ z < 358) := of_decide_eq_false hz
  unfold po_mq
  simp
  omega)
theorem om_script (H : ra_m A h) (ok : sa_ok A) : (∃ L, sp_script (sa_T A) (sa_C A) = .inr L ∧ ∃ h1 h2, gX11_begin h = some h1 ∧ gX11_parseScript h1 = some (nI L.length, h2) ∧ ra_m (sa_rd A (0, -1)) (ms_I h2 352 4 0) ∧ sm_Q L h2 ∧ po_fr po_fm h h2) ∨
    (∃ e, sp_script (sa_T A) (sa_C A) = .inl e ∧ ∃ h1 h2, gX11_begin h = some h1 ∧ gX11_parseScript h1 = some (-1, h2) ∧ ra_m (sa_rd A (e.1, nI e.2)) (ms_I h2 352 4 0) ∧ po_fr po_fm h h2) := by
  obtain ⟨hl, hb⟩ := ok.2.2.2.1
  obtain ⟨h1, e1, H1, g5, g6, f1, c1⟩ := tm_begin H.2.2.1.1 hl hb
  have HC1 : sm_C (sa_C A) 0 h1 := sm_C_blk ok.1.1 H.1.1 (fun j _ => c1 _)
  have fin : ∀ h2 e, tm_qx true h1 h2 → mh_I h2 352 5 = nI e.1 → mh_I h2 352 6 = e.2 → ra_m (sa_rd A e) (ms_I h2 352 4 0) := by
    intro h2 e f2 x5 x6
    refine ra_m_rd H ok (fun k => ?_) (fun k hk => ?_) po_I1 ?_ ?_ (fun k => ?_) (fun k => ?_)
    · rw [po_I3 (by decide), f2.1.1 353 (by decide), c1]
    · rw [po_I4 (by omega), f2.2 k (by omega), f1.2.1 k (by omega)]
    · rw [po_I4 (by decide)]
      exact x5
    · rw [po_I4 (by decide)]
      exact x6
    · rw [po_I3 (by decide), f2.1.1 354 (by decide), f1.1.1 354 (by decide)]
    · rw [po_I3 (by decide), f2.1.1 356 (by decide), f1.1.1 356 (by decide)]
  have HQ0 : sm_Q [] h1 := fun i q hi => (by cases hi)
  rcases tm_scr ok.1.1 31 mm_F [] (sp_tok (sa_T A) 0) h1 H1 HC1 HQ0 (by decide) (fun q hq => (by cases hq)) rfl (by decide) with ⟨L, a1, h2, a4, a5, f2⟩ | ⟨e, a1, h2, a4, E, f2⟩
  · exact Or.inl ⟨L, a1, h1, h2, e1, a4, fin h2 (0, -1) (tm_qx_w f2) ((f2.2 5 (by decide)).trans g5) ((f2.2 6 (by decide)).trans g6), a5, po_fr_trans (tm_px_fm f1) (tm_qx_fm f2)⟩
  · exact Or.inr ⟨e, a1, h1, h2, e1, a4, fin h2 (e.1, nI e.2) f2 E.1 E.2, po_fr_trans (tm_px_fm f1) (tm_qx_fm f2)⟩
theorem sp_scr_v {T : sp_T} {C : sp_C} (ok : sp_cok C) : ∀ m i t L, sp_tv T t → sp_scr T C m i t = .inr L → i ≤ 30 → m + i = 31 → (∀ q, q ∈ L → sp_qv C q) ∧ i + L.length ≤ 30 := by
  intro m
  induction m with
  | zero => intro i t L _ _ h1 h2; omega
  | succ m ih =>
    intro i t L ht hs hi h31
    have es : sp_scr T C (m + 1) i t = if sk_k t = 0 then .inr [] else match sp_ch T t with | none => .inl (1, sk_s t) | some c => if i < 30 then (match sp_args T C c (sp_nx T t) with | .inl e => .inl e | .inr y => match sp_scr T C m (i + 1) y.2 with | .inl e => .inl e | .inr l => .inr ((c, y.1) :: l)) else .inl (4, sk_s t) := rfl
    rw [es] at hs
    by_cases h0 : sk_k t = 0
    · rw [if_pos h0] at hs
      have := Sum.inr.inj hs
      subst this
      exact ⟨fun q hq => (by cases hq), hi⟩
    · rw [if_neg h0] at hs
      cases hc : sp_ch T t with
      | none =>
        rw [hc] at hs
        cases hs
      | some c =>
        rw [hc] at hs
        dsimp only at hs
        by_cases h30 : i < 30
        · rw [if_pos h30] at hs
          cases ha : sp_args T C c (sp_nx T t) with
          | inl e =>
            rw [ha] at hs
            cases hs
          | inr y =>
            rw [ha] at hs
            dsimp only at hs
            obtain ⟨v1, v2⟩ := sp_args_v (sp_ch_le hc) ok (sp_nx_v ht) (show sp_args T C c (sp_nx T t) = .inr (y.1, y.2) from ha)
            cases hr : sp_scr T C m (i + 1) y.2 with
            | inl e =>
              rw [hr] at hs
              cases hs
            | inr l =>
              rw [hr] at hs
              have := Sum.inr.inj hs
              subst this
              obtain ⟨w1, w2⟩ := ih (i + 1) y.2 l v2 hr (by omega) (by omega)
              refine ⟨fun q hq => ?_, by show i + (l.length + 1) ≤ 30; omega⟩
              rcases List.mem_cons.mp hq with h3 | h3
              · rw [h3]
                exact v1
              · exact w1 q h3
        · rw [if_neg h30] at hs
          cases hs
theorem op_runScript : op_runw (lc_1 po_IA) gX10_runScript gX11_runScript := by
  intro A ok
  cases hs : sp_script (sa_T A) (sa_C A) with
  | inl e =>
    refine ⟨sa_rd A (e.1, nI e.2), sa_rd_ok ok _, Or.inr ⟨po_IA, 1, 0, lc_1a, by decide, fun h H => ?_, fun h H => ?_⟩⟩
    · rcases oc_script H ok with ⟨L, a1, _⟩ | ⟨e', a1, h1, h2, a2, a3, a4, a5⟩
      · rw [hs] at a1
        cases a1
      · rw [hs] at a1
        have := Sum.inl.inj a1
        subst this
        unfold gX10_runScript
        rw [a2, Option.bind_some, a3, Option.bind_some, if_neg Bool.false_ne_true]
        exact ⟨h2, rfl, a4, a5⟩
    · rcases om_script H ok with ⟨L, a1, _⟩ | ⟨e', a1, h1, h2, a2, a3, a4, a5⟩
      · rw [hs] at a1
        cases a1
      · rw [hs] at a1
        have := Sum.inl.inj a1
        subst this
        unfold gX11_runScript
        refine ⟨ms_I (ms_I h2 352 4 0) 352 9 1, ?_, po_I1, ra_m_9 a4 (sa_rd_ok ok _), po_fr_trans a5 (po_fr_trans (po_fr_I (by decide)) po_fm9)⟩
        rw [a2, Option.bind_some, a3, Option.bind_some, Option.bind_some]
        refine po_jn (fun k1 g1 => ?_)
        rw [if_pos rfl, g1]
        dsimp only
        rw [po_fails_1, Option.bind_some, if_pos rfl]
  | inr L =>
    have okB := sa_rd_ok ok (0, -1)
    have okP := sa_push_ok okB
    have hL : (∀ q, q ∈ L → sp_qv (sa_C A) q) ∧ L.length ≤ 30 := by
      obtain ⟨w1, w2⟩ := sp_scr_v ok.1.1 31 0 _ L (sp_tok_v (Nat.zero_le _)) hs (by decide) rfl
      exact ⟨w1, by omega⟩
    obtain ⟨S', v, b1, b2, b3⟩ := sq_run (C := sa_C A) hL.2 hL.1 L.length 0 _ (Nat.zero_add _) okP rfl
    refine ⟨_, sa_set_ok okP b1.1 b1.2, Or.inl ⟨v, fun h H => ?_, fun h H => ?_⟩⟩
    · rcases oc_script H ok with ⟨L', a1, _, _, h1, h2, a2, a3, a4, a5, a6⟩ | ⟨e', a1, _⟩
      · rw [hs] at a1
        have := Sum.inr.inj a1
        subst this
        obtain ⟨h3, c1, c2, c3⟩ := cc_remember a4 okB
        obtain ⟨h3', c1', _, c4⟩ := pc_remember a4.1.2 okB.1.2 a4.2.1.1 okB.2.1.1
        rw [c1] at c1'
        have := Option.some.inj c1'
        subst this
        have HQ3 := sc_Q_fr a5 c4 (by decide) (by decide) (by decide)
        obtain ⟨h4, d1, d2, d3⟩ := b2 mm_F h3 (Nat.lt_of_le_of_lt hL.2 (by decide)) c2 HQ3
        unfold gX10_runScript
        rw [a2, Option.bind_some, a3, Option.bind_some, if_pos rfl, c1, Option.bind_some]
        exact ⟨h4, d1, ra_c_set c2 d2 d3, po_fw_trans a6 (po_fw_of (po_fr_trans c3 (po_fr_mono d3 (fun z hz => po_st_c hz))))⟩
      · rw [hs] at a1
        cases a1
    · rcases om_script H ok with ⟨L', a1, h1, h2, a2, a3, a4, a5, a6⟩ | ⟨e', a1, _⟩
      · rw [hs] at a1
        have := Sum.inr.inj a1
        subst this
        have a4' := ra_m_9 (v := 0) a4 okB
        obtain ⟨h3, c1, c2, c3, c9⟩ := cm_remember a4' okB
        obtain ⟨h3', c1', _, c4, _⟩ := pm_remember a4'.1.1 a4'.1.2 okB.1.1 okB.1.2 a4'.2.1.1 okB.2.1.1 okB.2.1.2
        rw [c1] at c1'
        have := Option.some.inj c1'
        subst this
        have HQ3 : sm_Q L h3 := fun i q hi => by
          have hx : ∀ k, mh_I h3 357 k = mh_I h2 357 k := fun k => by rw [c4.1.1 357 (by decide), po_I3 (by decide), po_I3 (by decide)]
          exact ⟨(hx _).trans (a5 i q hi).1, fun j a ha => (hx _).trans ((a5 i q hi).2 j a ha)⟩
        obtain ⟨h4, d1, d2, d3⟩ := b3 mm_F h3 (Nat.lt_of_le_of_lt hL.2 (by decide)) c2 HQ3
        unfold gX11_runScript
        refine ⟨h4, ?_, ?_, ra_m_set c2 okP d2 d3, po_fr_trans a6 (po_fr_trans (po_fr_I (by decide)) (po_fr_trans po_fm9 (po_fr_trans c3 (po_fx_fm d3))))⟩
        · rw [a2, Option.bind_some, a3, Option.bind_some, Option.bind_some]
          refine po_jn (fun k1 g1 => ?_)
          rw [if_neg (show ¬ nI L.length = -1 from po_nm1 (by omega)), g1]
          dsimp only
          rw [po_fails_0, Option.bind_some, if_neg Bool.false_ne_true, c1, Option.bind_some]
          exact d1
        · rw [d3.1.1 352 (by decide), c9, po_I1]
      · rw [hs] at a1
        cases a1
end PRF

section PQY
variable {T : sp_T} {h : mm_H} {C : sp_C} {S : sp_S} {A : sp_A}
/-- the reference before a text is parsed -/
theorem tm_begin (H : sm_T T 4 355 h) (hl : T.1 ≤ 600) (hb : ∀ j, T.2 j < 256) : ∃ h', gX11_begin h = some h' ∧ tm_st T (sp_tok T 0) h' ∧ mh_I h' 352 5 = 0 ∧ mh_I h' 352 6 = -1 ∧ tm_px true h h' ∧ ∀ k, mh_I h' 353 k = mh_I h 353 k := by
  unfold gX11_begin
  have f0 : tm_px true h (ms_I (ms_I (ms_I h 352 5 0) 352 6 (-1)) 352 10 0) := ⟨po_fr_trans (po_fr_trans (po_fr_I (by decide)) (po_fr_I (by decide))) (po_fr_I (by decide)), fun k hk => by
    rcases hk with h | h | h | h
    · rw [po_I4 (by omega), po_I4 (by omega), po_I4 (by omega)]
    · rw [po_I4 (by omega), po_I4 (by omega), po_I4 (by omega)]
    · rw [po_I4 (by omega), po_I4 (by omega), po_I4 (by omega)]
    · exact absurd h.1 (by decide), fun k _ => by rw [po_I3 (by decide), po_I3 (by decide), po_I3 (by decide)]⟩
  have H0 : sm_T T 4 355 (ms_I (ms_I (ms_I h 352 5 0) 352 6 (-1)) 352 10 0) := ⟨(f0.2.1 4 (by decide)).trans H.1, fun j hj => (f0.1.1 355 (by decide) j).trans (H.2 j hj)⟩
  obtain ⟨h', e1, e2, e3⟩ := tm_read (i := 0) H0 hl hb po_I1 (Nat.zero_le _)
  rw [Option.bind_some, Option.bind_some, Option.bind_some, e1, Option.bind_some]
  refine ⟨h', rfl, ⟨⟨tm_T H0 e3, e2⟩, ⟨hl, hb⟩, sp_tok_v (Nat.zero_le _)⟩, ?_, ?_, tm_px_trans f0 (tm_px_t e3), fun k => ?_⟩
  · rw [e3.2 5 (by decide), po_I4 (by decide), po_I4 (by decide), po_I1]
  · rw [e3.2 6 (by decide), po_I4 (by decide), po_I1]
  · rw [e3.1.1 353 (by decide), po_I3 (by decide), po_I3 (by decide), po_I3 (by decide)]
theorem tm_px_fm {e : Bool} {a b : mm_H} (h : tm_px e a b) : po_fr po_fm a b := po_fr_mono h.1 (fun z hz => by
  have hz' : ¬ (352 ≤ z ∧ z < 358) := of_decide_eq_false hz
  unfold po_mm
  simp
  omega)
theorem om_load (H : ra_m A h) (ok : sa_ok A) : (∃ C S, sp_setup (sa_T A) = .inr (C, S) ∧ ∃ h1, gX11_load h = some (nI (sp_np C), h1) ∧ mh_I h1 352 9 = 0 ∧ ra_m (sa_load A C S) h1 ∧ po_fr po_fm h h1) ∨
    (∃ e, sp_setup (sa_T A) = .inl e ∧ ∃ h1, gX11_load h = some (0, h1) ∧ mh_I h1 352 9 = 1 ∧ ra_m (sa_err A e) h1 ∧ po_fr po_fm h h1) := by
  obtain ⟨hl, hb⟩ := ok.2.2.2.1
  obtain ⟨⟨a1, a2⟩, ⟨a3, a4⟩, ⟨a5, a6⟩, a7, a8⟩ := H
  obtain ⟨⟨o1, o2⟩, ⟨o3, o4⟩, o5, o6, o7⟩ := ok
  obtain ⟨b, e1, c1, c2, c3⟩ := pm_copy (f := 0) (t := 9) (h := h) (by decide) (by decide) (by decide)
  have HT : sm_T (sa_T A) 4 355 b := ⟨(c3.1 352 (by decide) 4).trans a5.1, fun j hj => (c3.1 355 (by decide) j).trans (a5.2 j hj)⟩
  obtain ⟨d, e2, H2, g5, g6, f2, c4⟩ := tm_begin HT hl hb
  unfold gX11_load
  rw [show gX11_copyBlock 0 9 h = some b from e1, Option.bind_some, e2, Option.bind_some]
  rcases tm_setup H2 with ⟨C, S, s1, s2, s3, s4, u, e3, HC, HS, f3⟩ | ⟨e, s1, u, e3, E, f3⟩
  · -- a setup without an error
    have v5 : mh_I u 352 5 = 0 := (f3.2.1 5 (by decide)).trans g5
    have v6 : mh_I u 352 6 = -1 := (f3.2.1 6 (by decide)).trans g6
    rw [e3, Option.bind_some, Option.bind_some]
    generalize hX : ms_I (ms_I (ms_I (ms_I (ms_I u 352 4 0) 352 9 0) 352 2 0) 354 0 0) 354 1 0 = X
    have x352 : ∀ k, k ≠ 4 → k ≠ 9 → k ≠ 2 → mh_I X 352 k = mh_I u 352 k := fun k h1 h2 h3 => by
      rw [← hX, po_I3 (by decide), po_I3 (by decide), po_I4 h3, po_I4 h2, po_I4 h1]
    have xo : ∀ o, o ≠ 352 → o ≠ 354 → ∀ k, mh_I X o k = mh_I u o k := fun o h1 h2 k => by
      rw [← hX, po_I3 h2, po_I3 h2, po_I3 h1, po_I3 h1, po_I3 h1]
    have xfr : po_fr po_fm u X := by
      rw [← hX]
      exact po_fr_trans (po_fr_trans (po_fr_trans (po_fr_trans (po_fr_I (by decide)) (po_fr_I (by decide))) (po_fr_I (by decide))) (po_fr_I (by decide))) (po_fr_I (by decide))
    have HCX : sm_C C 0 X := sm_C_blk s2 HC (fun j _ => xo 353 (by decide) (by decide) _)
    have HSX : sm_S S 0 X := sm_blk s3 HS (fun j _ => xo 353 (by decide) (by decide) _)
    have old : ∀ k, (k < 5 ∨ (6 < k ∧ k < 10)) → mh_I u 352 k = mh_I h 352 k := fun k hk => by
      rw [f3.2.1 k (by rcases hk with h | h <;> omega), f2.2.1 k (by rcases hk with h | h <;> omega), c3.1 352 (by decide)]
    refine Or.inl ⟨C, S, s1, X, ?_, ?_, ⟨⟨HCX, HSX⟩, ⟨⟨?_, fun i S' hi => by cases hi⟩, fun k hk => ⟨?_, fun S' hS' => by cases hS'⟩⟩, ⟨⟨?_, fun j hj => absurd hj (Nat.not_lt_zero _)⟩, ⟨?_, fun j hj => ?_⟩⟩, ?_, ?_⟩, po_fr_trans (po_fm_m c3) (po_fr_trans (tm_px_fm f2) (po_fr_trans (tm_px_fm f3) xfr))⟩
    · refine po_jn (fun k1 j1 => ?_)
      rw [if_pos rfl, j1]
      dsimp only
      refine po_jn (fun k2 j2 => ?_)
      rw [if_pos rfl, j2]
      dsimp only
      rw [po_fails_0, Option.bind_some, if_neg Bool.false_ne_true, Option.bind_some, if_pos (by decide), Option.bind_some, if_pos (by decide), Option.bind_some, if_pos po_m1]
      show some (mh_I (ms_I (ms_I (ms_I (ms_I (ms_I u 352 4 0) 352 9 0) 352 2 0) 354 0 0) 354 1 0) 353 1, ms_I (ms_I (ms_I (ms_I (ms_I u 352 4 0) 352 9 0) 352 2 0) 354 0 0) 354 1 0) = _
      rw [hX]
      exact congrArg (fun z => some (z, X)) HCX.1
    · rw [← hX, po_I3 (by decide), po_I3 (by decide), po_I4 (by decide), po_I1]
    · rw [← hX, po_I3 (by decide), po_I3 (by decide), po_I1]
      rfl
    · have hk0 : k = 0 ∨ k = 1 := by omega
      refine ⟨fun z => absurd ?_ z, fun z => by cases z⟩
      rcases hk0 with rfl | rfl
      · rw [← hX, po_I4 (by decide), po_I1]
      · rw [← hX, po_I1]
    · rw [← hX, po_I3 (by decide), po_I3 (by decide), po_I4 (by decide), po_I4 (by decide), po_I1]
      rfl
    · exact (x352 8 (by decide) (by decide) (by decide)).trans ((old 8 (by decide)).trans a6.1)
    · rw [xo 356 (by decide) (by decide), f3.1.1 356 (by decide), f2.1.1 356 (by decide), c3.1 356 (by decide)]
      exact a6.2 j hj
    · exact (x352 5 (by decide) (by decide) (by decide)).trans v5
    · exact (x352 6 (by decide) (by decide) (by decide)).trans v6
  · -- an error: block 0 comes back
    rw [e3, Option.bind_some, Option.bind_some]
    obtain ⟨w, e4, d1, d2, d3⟩ := pm_copy (f := 9) (t := 0) (h := ms_I u 352 4 0) (by decide) (by decide) (by decide)
    generalize hX : ms_I w 352 9 1 = X
    have x353 : ∀ k, mh_I X 353 k = mh_I w 353 k := fun k => by rw [← hX, po_I3 (by decide)]
    have u353 : ∀ k, 420 ≤ k → mh_I u 353 k = mh_I b 353 k := fun k hk => by rw [f3.2.2 k hk, c4]
    have xo : ∀ o, o ≠ 352 → o ≠ 353 → ∀ k, mh_I X o k = mh_I h o k := fun o h1 h2 k => by
      have hm : po_m353 o = false := by
        show (o == 353) = false
        simp
        exact h2
      have hmm : po_mm o = false := by
        unfold po_mm
        simp
        exact ⟨h1, h2⟩
      rw [← hX, po_I3 h1, d3.1 o hm, po_I3 h1, f3.1.1 o hmm, f2.1.1 o hmm, c3.1 o hm]
    have x352 : ∀ k, (k < 4 ∨ (6 < k ∧ k < 9)) → mh_I X 352 k = mh_I h 352 k := fun k hk => by
      rw [← hX, po_I4 (by rcases hk with h | h <;> omega), d3.1 352 (by decide), po_I4 (by rcases hk with h | h <;> omega), f3.2.1 k (by rcases hk with h | h <;> omega), f2.2.1 k (by rcases hk with h | h <;> omega), c3.1 352 (by decide)]
    have h0 : ∀ j, j < 420 → mh_I X 353 (420 * 0 + j) = mh_I h 353 (420 * 0 + j) := fun j hj => by
      rw [x353, d1 j hj, po_I3 (by decide), u353 _ (by omega), c1 j hj]
    have hk : ∀ k, 420 ≤ k → k < 3780 → mh_I X 353 k = mh_I h 353 k := fun k h1 h2 => by
      rw [x353, d2 k (by omega), po_I3 (by decide), u353 k h1, c2 k (by omega)]
    have xfr : po_fr po_fm h X := by
      rw [← hX]
      exact po_fr_trans (po_fm_m c3) (po_fr_trans (tm_px_fm f2) (po_fr_trans (tm_px_fm f3) (po_fr_trans (po_fr_I (by decide)) (po_fr_trans (po_fm_m d3) (po_fr_I (by decide))))))
    refine Or.inr ⟨e, s1, X, ?_, ?_, ⟨⟨sm_C_blk o1 a1 h0, sm_blk o2 a2 h0⟩, ⟨⟨(x352 2 (by decide)).trans a3.1, fun i S' hi => ?_⟩, fun k hk2 => ⟨by rw [xo 354 (by decide) (by decide)]; exact (a4 k hk2).1, fun S' hS' => ?_⟩⟩, ⟨⟨?_, fun j hj => absurd hj (Nat.not_lt_zero _)⟩, ⟨(x352 8 (by decide)).trans a6.1, fun j hj => (xo 356 (by decide) (by decide) j).trans (a6.2 j hj)⟩⟩, ?_, ?_⟩, xfr⟩
    · refine po_jn (fun k1 j1 => ?_)
      rw [if_neg Bool.false_ne_true, show gX11_copyBlock 9 0 (ms_I u 352 4 0) = some w from e4, Option.bind_some, j1]
      dsimp only
      refine po_jn (fun k2 j2 => ?_)
      rw [if_neg Bool.false_ne_true, j2]
      dsimp only
      rw [po_fails_1, Option.bind_some, if_pos rfl, hX]
    · rw [← hX, po_I1]
    · obtain ⟨u1, u2⟩ := a3.2 i S' hi
      have hlen : (sa_U A).length - i ≤ 6 := by omega
      have hpos : 1 ≤ (sa_U A).length - i := by
        have : i < (sa_U A).length := by
          rcases Nat.lt_or_ge i (sa_U A).length with hlt | hge
          · exact hlt
          · rw [show (sa_U (sa_err A e))[i]? = (sa_U A)[i]? from rfl, List.getElem?_eq_none hge] at hi
            cases hi
        omega
      exact ⟨sm_blk (o4 S' (List.mem_of_getElem? hi)) u1 (fun j hj => hk _ (by show 420 ≤ 420 * ((sa_U A).length - i) + j; omega) (by show 420 * ((sa_U A).length - i) + j < 3780; omega)), sm_C_blk o1 u2 (fun j hj => hk _ (by show 420 ≤ 420 * ((sa_U A).length - i) + j; omega) (by show 420 * ((sa_U A).length - i) + j < 3780; omega))⟩
    · obtain ⟨u1, u2⟩ := (a4 k hk2).2 S' hS'
      exact ⟨sm_blk (o5 k S' hS') u1 (fun j hj => hk _ (by omega) (by omega)), sm_C_blk o1 u2 (fun j hj => hk _ (by omega) (by omega))⟩
    · rw [← hX, po_I4 (by decide), d3.1 352 (by decide), po_I1]
      rfl
    · rw [← hX, po_I4 (by decide), d3.1 352 (by decide), po_I4 (by decide)]
      exact E.1
    · rw [← hX, po_I4 (by decide), d3.1 352 (by decide), po_I4 (by decide)]
      exact E.2
theorem sp_setup_ok (hs : sp_setup T = .inr (C, S)) (hl : T.1 ≤ 600) (hb : ∀ j, T.2 j < 256) : sp_cok C ∧ sp_ok S ∧ sp_dy S = 0 := by
  have H : sc_T T 1 (((0, 0, 0), (fun o k => if o = 1 then nI T.1 else nI (T.2 k)), (fun _ _ => none), (fun _ _ => 0), (fun _ _ => 0)) : mm_H) := ⟨rfl, fun j hj => by
    show nI (T.2 j) &&& 255 = nI (T.2 j)
    have := hb j
    rw [po_255, pk_tn (by omega), Nat.mod_eq_of_lt this]⟩
  rcases tc_setup H hl hb with ⟨C', S', s1, s2, s3, s4, _⟩ | ⟨e, s1, _⟩
  · rw [hs] at s1
    obtain ⟨rfl, rfl⟩ := Prod.mk.inj (Sum.inr.inj s1)
    exact ⟨s2, s3, s4⟩
  · rw [hs] at s1
    cases s1
theorem op_load : op_runw (lc_1 po_IA) gX10_load gX11_load := by
  intro A ok
  cases hs : sp_setup (sa_T A) with
  | inl e =>
    refine ⟨sa_err A e, sa_err_ok ok e, Or.inr ⟨po_IA, 1, 0, lc_1a, by decide, fun h H => ?_, fun h H => ?_⟩⟩
    · rcases oc_load H ok with ⟨C, S, s1, _⟩ | ⟨e', s1, h1, e1, e2, e3⟩
      · rw [hs] at s1
        cases s1
      · rw [hs] at s1
        have := Sum.inl.inj s1
        subst this
        exact ⟨h1, e1, e2, e3⟩
    · rcases om_load H ok with ⟨C, S, s1, _⟩ | ⟨e', s1, h1, e1, e2, e3, e4⟩
      · rw [hs] at s1
        cases s1
      · rw [hs] at s1
        have := Sum.inl.inj s1
        subst this
        exact ⟨h1, e1, e2, e3, e4⟩
  | inr y =>
    obtain ⟨C, S⟩ := y
    obtain ⟨k1, k2, k3⟩ := sp_setup_ok hs ok.2.2.2.1.1 ok.2.2.2.1.2
    refine ⟨sa_load A C S, sa_load_ok ok k1 k2 k3, Or.inl ⟨nI (sp_np C), fun h H => ?_, fun h H => ?_⟩⟩
    · rcases oc_load H ok with ⟨C', S', s1, s2, s3, s4, h1, e1, e2, e3⟩ | ⟨e', s1, _⟩
      · rw [hs] at s1
        have := Sum.inr.inj s1
        obtain ⟨rfl, rfl⟩ := Prod.mk.inj this
        exact ⟨h1, e1, e2, e3⟩
      · rw [hs] at s1
        cases s1
    · rcases om_load H ok with ⟨C', S', s1, h1, e1, e2, e3, e4⟩ | ⟨e', s1, _⟩
      · rw [hs] at s1
        have := Sum.inr.inj s1
        obtain ⟨rfl, rfl⟩ := Prod.mk.inj this
        exact ⟨h1, e1, e2, e3, e4⟩
      · rw [hs] at s1
        cases s1
end PQY

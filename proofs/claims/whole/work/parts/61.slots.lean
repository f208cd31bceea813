section PQG
/-! undo, save, restore -/
variable {A : sp_A} {h : mm_H}
def sa_U1 (A : sp_A) (S : sp_S) (U : List sp_S) : sp_A := ((sa_C A, S), (U, sa_V A), A.2.2)
theorem sa_undo_ok (ok : sa_ok A) {S : sp_S} {U : List sp_S} (hU : sa_U A = S :: U) : sa_ok (sa_U1 A S U) := by
  obtain ⟨⟨o1, o2⟩, ⟨o3, o4⟩, o5, o6, o7, o8, o9⟩ := ok
  rw [hU] at o3 o4
  have o92 := o9.2.1
  rw [hU] at o92
  rw [List.length_cons] at o3
  exact ⟨⟨o1, o4 S List.mem_cons_self⟩, ⟨show U.length ≤ 6 by omega, fun S' hS => o4 S' (List.mem_cons_of_mem _ hS)⟩, o5, o6, o7, o8, o92 S List.mem_cons_self, fun S' hS => o92 S' (List.mem_cons_of_mem _ hS), o9.2.2⟩
theorem op_undo : op_run (lc_1 po_IS) gX10_undo gX11_undo := by
  intro A ok
  cases hU : sa_U A with
  | nil =>
    refine op_no ok (t := 1) (v := 0) lc_1a (by decide) (fun h H => ?_) (fun h H => ?_)
    · obtain ⟨nx, h1, h2, h3, h4⟩ := H.2.1.1
      unfold gX10_undo
      rw [h3, hU, if_pos (show nI ([] : List sp_S).length = 0 from rfl)]
    · unfold gX11_undo
      refine po_jn (fun k1 e1 => ?_)
      rw [H.2.1.1.1, hU, if_pos (show nI ([] : List sp_S).length = 0 from rfl), e1]
      dsimp only
      rw [po_fails_1, Option.bind_some, if_pos rfl]
  | cons S U =>
    have okA := sa_undo_ok ok hU
    obtain ⟨⟨o1, o2⟩, ⟨o3, o4⟩, o5, o6, o7⟩ := ok
    rw [hU] at o3 o4
    rw [List.length_cons] at o3
    refine ⟨sa_U1 A S U, okA, Or.inl ⟨nI U.length, fun h H => ?_, fun h H => ?_⟩⟩
    · obtain ⟨⟨h1, h2⟩, ⟨h3, h4⟩, ⟨h5, h6⟩, h7, h8⟩ := H
      rw [hU] at h3
      obtain ⟨a, e1, e2, e3, hf⟩ := pc_stepBack h3 (by omega) (o4 S List.mem_cons_self)
      obtain ⟨nx, k1, k2, k3, k4⟩ := h3
      obtain ⟨nx', l1, l2, l3, l4⟩ := e2
      have hn : ∀ z, z < 21 ∨ (52 ≤ z ∧ z < 90) ∨ 90 < z → (z == 90 || po_in 21 z) = false := fun z hz => by
        rw [po_in_no (by omega)]
        simp
        omega
      unfold gX10_undo
      rw [k3, if_neg (show ¬ nI (S :: U).length = 0 from nI_ne0 (by rw [List.length_cons]; omega) (by rw [List.length_cons]; omega)), e1, Option.bind_some, l3]
      refine ⟨a, rfl, ⟨⟨sc_C_fr h1 hf (hn _ (by decide)) (hn _ (by decide)) (hn _ (by decide)) (hn _ (by decide)), e3⟩, ⟨⟨nx', l1, l2, l3, l4⟩, sc_V_fr h4 hf (fun q _ _ => hn q (by omega))⟩, ⟨sc_T_fr h5 hf (hn _ (by decide)) (hn _ (by decide)), sc_T_fr h6 hf (hn _ (by decide)) (hn _ (by decide))⟩, (hf.1 5 (hn _ (by decide)) 1).trans h7, (hf.1 5 (hn _ (by decide)) 2).trans h8⟩, po_fr_mono hf (fun z hz => hn z (by have := po_fc_no hz; omega))⟩
    · obtain ⟨⟨a1, a2⟩, ⟨a3, a4⟩, ⟨a5, a6⟩, a7, a8⟩ := H
      obtain ⟨u1, u2⟩ := a3
      rw [hU] at u1 u2
      obtain ⟨s1, s2⟩ := u2 0 S rfl
      rw [List.length_cons] at u1
      have e9 : mh_I (ms_I h 352 9 0) 352 2 = nI (U.length + 1) := by rw [po_I4 (by decide), u1]
      obtain ⟨c, f1, f2, f3, f4⟩ := pm_copy (f := U.length + 1) (t := 0) (h := ms_I h 352 9 0) (by omega) (by decide) (by omega)
      have g3 : ∀ k, mh_I (ms_I h 352 9 0) 353 k = mh_I h 353 k := fun k => po_I3 (by decide)
      have fk : ∀ k, k ≠ 9 → mh_I c 352 k = mh_I h 352 k := fun k hk => by rw [f4.1 352 (by decide), po_I4 hk]
      have fo : ∀ o, po_m353 o = false → o ≠ 352 → ∀ k, mh_I (ms_I c 352 2 (nI U.length)) o k = mh_I h o k := fun o ho hn k => by rw [po_I3 hn, f4.1 o ho, po_I3 hn]
      have h0 : ∀ j, j < 420 → mh_I (ms_I c 352 2 (nI U.length)) 353 (420 * 0 + j) = mh_I h 353 (420 * ((S :: U).length - 0) + j) := fun j hj => by
        rw [po_I3 (by decide), f2 j hj, g3]
        rfl
      have hk : ∀ k, 420 ≤ k → mh_I (ms_I c 352 2 (nI U.length)) 353 k = mh_I h 353 k := fun k hk => by
        rw [po_I3 (by decide), f3 k (by omega), g3]
      unfold gX11_undo
      refine ⟨ms_I c 352 2 (nI U.length), ?_, ?_, ⟨⟨sm_C_blk o1 s2 h0, sm_blk (o4 S List.mem_cons_self) s1 h0⟩, ⟨⟨po_I1, fun i S' hi => ?_⟩, fun k hk2 => ⟨by rw [fo 354 (by decide) (by decide)]; exact (a4 k hk2).1, fun S' hS' => ?_⟩⟩, ⟨⟨(po_I4 (by decide)).trans ((fk 4 (by decide)).trans a5.1), fun j hj => (fo 355 (by decide) (by decide) j).trans (a5.2 j hj)⟩, ⟨(po_I4 (by decide)).trans ((fk 8 (by decide)).trans a6.1), fun j hj => (fo 356 (by decide) (by decide) j).trans (a6.2 j hj)⟩⟩, (po_I4 (by decide)).trans ((fk 5 (by decide)).trans a7), (po_I4 (by decide)).trans ((fk 6 (by decide)).trans a8)⟩, po_fr_trans po_fm9 (po_fr_trans (po_fm_m f4) (po_fr_I (by decide)))⟩
      · refine po_jn (fun k1 e1 => ?_)
        rw [u1, if_neg (nI_ne0 (by omega) (by omega)), e1]
        dsimp only
        rw [po_fails_0, Option.bind_some, if_neg Bool.false_ne_true, e9, show gX11_copyBlock (nI (U.length + 1)) 0 (ms_I h 352 9 0) = some c from f1, Option.bind_some, f4.1 352 (by decide), e9, nI_pred, Option.bind_some, po_I1]
      · rw [po_I4 (by decide), f4.1 352 (by decide), po_I1]
      · have hlen : i < U.length := by
          rcases Nat.lt_or_ge i U.length with hlt | hge
          · exact hlt
          · rw [show (sa_U (sa_U1 A S U))[i]? = U[i]? from rfl, List.getElem?_eq_none hge] at hi
            cases hi
        obtain ⟨v1, v2⟩ := u2 (i + 1) S' hi
        have hb : ∀ j, j < 420 → mh_I (ms_I c 352 2 (nI U.length)) 353 (420 * (U.length - i) + j) = mh_I h 353 (420 * ((S :: U).length - (i + 1)) + j) := fun j hj => by
          rw [hk _ (by omega), List.length_cons, show U.length + 1 - (i + 1) = U.length - i by omega]
        exact ⟨sm_blk (o4 S' (List.mem_cons_of_mem _ (List.mem_of_getElem? hi))) v1 hb, sm_C_blk o1 v2 hb⟩
      · obtain ⟨v1, v2⟩ := (a4 k hk2).2 S' hS'
        exact ⟨sm_blk (o5 k S' hS') v1 (fun j _ => hk _ (by omega)), sm_C_blk o1 v2 (fun j _ => hk _ (by omega))⟩
/-! save -/
theorem pc_slot {q : Nat} (hq : q < 2) : gX10_checkSlot (nI q) h = some (.inl (), h) := by
  unfold gX10_checkSlot
  rw [po_outside_in (y := 0) (z := 1) (a := 0) (b := 1) (Nat.zero_le q) (by omega) (by decide) rfl rfl rfl, Option.bind_some, if_neg (by decide)]
theorem pc_slotn {x : Int32} (hx : po_no x 0 1) : gX10_checkSlot x h = some (.inr po_IO, ms_X h) := by
  unfold gX10_checkSlot
  rw [po_outside_no (y := 0) (z := 1) hx rfl rfl, Option.bind_some, if_pos rfl]
def sa_V1 (A : sp_A) (k : Nat) : sp_A := (A.1, (sa_U A, fun j => if j = k then some (sa_S A) else sa_V A j), A.2.2)
theorem sa_V1_ok (ok : sa_ok A) (k : Nat) : sa_ok (sa_V1 A k) := by
  obtain ⟨⟨o1, o2⟩, ⟨o3, o4⟩, o5, o6, o7, o8, o9⟩ := ok
  have hs : ∀ {j : Nat} {S : sp_S}, (if j = k then some (sa_S A) else sa_V A j) = some S → (j = k ∧ S = sa_S A) ∨ sa_V A j = some S := fun {j S} h => by
    by_cases hj : j = k
    · rw [if_pos hj] at h
      exact Or.inl ⟨hj, (Option.some.inj h).symm⟩
    · rw [if_neg hj] at h
      exact Or.inr h
  refine ⟨⟨o1, o2⟩, ⟨o3, o4⟩, fun j S h => ?_, o6, o7, o8, o9.1, o9.2.1, fun j S h => ?_⟩
  · rcases hs h with ⟨_, h2⟩ | h2
    · rw [h2]
      exact o2
    · exact o5 j S h2
  · rcases hs h with ⟨_, h2⟩ | h2
    · rw [h2]
      exact o9.1
    · exact o9.2.2 j S h2
theorem op_save (x : Int32) : op_run (lc_1 po_IO) (gX10_save x) (gX11_save x) := by
  intro A ok
  rcases po_cr x (a := 0) (b := 1) (by decide) (by decide) with ⟨q, hq0, hq1, rfl⟩ | hx
  · have hq : q < 2 := by omega
    have okA := sa_V1_ok ok q
    obtain ⟨⟨o1, o2⟩, ⟨o3, o4⟩, o5, o6, o7⟩ := ok
    refine ⟨sa_V1 A q, okA, Or.inl ⟨nI (sp_dy (sa_S A)), fun h H => ?_, fun h H => ?_⟩⟩
    · obtain ⟨⟨h1, h2⟩, ⟨h3, h4⟩, ⟨h5, h6⟩, h7, h8⟩ := H
      obtain ⟨a, e1, e2, e3, e4, hf⟩ := pc_store (o := 281) (n := 2) (k := q) (h := h) po_c281 po_c283 (by decide) hq (po_kd285 q hq) (by omega)
      have hn : ∀ z, z < 284 ∨ 347 ≤ z → (z == 281 + 3 || po_in (281 + 1 + 3 + 31 * q) z) = false := fun z hz => by
        rw [po_in_no (by omega)]
        simp
        omega
      have h2' : sc_S (sa_S A) 21 a := sc_fr h2 hf (fun z hz => by
        have hz' : 21 ≤ z ∧ z < 21 + 31 := of_decide_eq_true hz
        exact hn z (by omega))
      unfold gX10_save
      rw [pc_slot hq, Option.bind_some]
      dsimp only
      rw [e1, Option.bind_some, h2'.1.1]
      refine ⟨a, rfl, ⟨⟨sc_C_fr h1 hf (hn _ (by decide)) (hn _ (by decide)) (hn _ (by decide)) (hn _ (by decide)), h2'⟩, ⟨sc_U_fr h3 hf (fun z _ hz => hn z (by omega)), fun k hk => ?_⟩, ⟨sc_T_fr h5 hf (hn _ (by decide)) (hn _ (by decide)), sc_T_fr h6 hf (hn _ (by decide)) (hn _ (by decide))⟩, (hf.1 5 (hn _ (by decide)) 1).trans h7, (hf.1 5 (hn _ (by decide)) 2).trans h8⟩, po_fr_mono hf (fun z hz => hn z (by have := po_fc_no hz; omega))⟩
      show (mh_I a 284 k = 1 ↔ (if k = q then some (sa_S A) else sa_V A k).isSome = true) ∧ ∀ S, (if k = q then some (sa_S A) else sa_V A k) = some S → sc_S S (285 + 31 * k) a
      by_cases hkq : k = q
      · subst hkq
        rw [if_pos rfl]
        refine ⟨⟨fun _ => rfl, fun _ => e3⟩, fun S hS => ?_⟩
        rw [← Option.some.inj hS]
        exact e2 _ o2 h2
      · rw [if_neg hkq]
        obtain ⟨v1, v2⟩ := h4 k hk
        have e4' := e4 k hkq
        refine ⟨by rw [show (284 : Nat) = 281 + 3 from rfl, e4']; exact v1, fun S hS => sc_fr (v2 S hS) hf (fun z hz => ?_)⟩
        have hz' : 285 + 31 * k ≤ z ∧ z < 285 + 31 * k + 31 := of_decide_eq_true hz
        rw [po_in_no (by omega)]
        simp
        omega
    · obtain ⟨⟨a1, a2⟩, ⟨a3, a4⟩, ⟨a5, a6⟩, a7, a8⟩ := H
      obtain ⟨c, f1, f2, f3, f4⟩ := pm_copy (f := 0) (t := 7 + q) (h := ms_I h 352 9 0) (by decide) (by omega) (by omega)
      have g3 : ∀ k, mh_I (ms_I h 352 9 0) 353 k = mh_I h 353 k := fun k => po_I3 (by decide)
      have fk : ∀ k, k ≠ 9 → mh_I (ms_I c 354 q 1) 352 k = mh_I h 352 k := fun k hk => by rw [po_I3 (by decide), f4.1 352 (by decide), po_I4 hk]
      have fo : ∀ o, po_m353 o = false → o ≠ 352 → o ≠ 354 → ∀ k, mh_I (ms_I c 354 q 1) o k = mh_I h o k := fun o ho hn hn' k => by rw [po_I3 hn', f4.1 o ho, po_I3 hn]
      have hk : ∀ k, (k < 420 * (7 + q) ∨ 420 * (7 + q) + 420 ≤ k) → mh_I (ms_I c 354 q 1) 353 k = mh_I h 353 k := fun k hk => by
        rw [po_I3 (by decide), f3 k hk, g3]
      have hb : ∀ j, j < 420 → mh_I (ms_I c 354 q 1) 353 (420 * (7 + q) + j) = mh_I h 353 (420 * 0 + j) := fun j hj => by
        rw [po_I3 (by decide), f2 j hj, g3]
      have s0 : sm_S (sa_S A) 0 (ms_I c 354 q 1) := sm_blk o2 a2 (fun j hj => hk _ (by omega))
      unfold gX11_save
      refine ⟨ms_I c 354 q 1, ?_, ?_, ⟨⟨sm_C_blk o1 a1 (fun j hj => hk _ (by omega)), s0⟩, ⟨⟨(fk 2 (by decide)).trans a3.1, fun i S' hi => ?_⟩, fun k hk2 => ?_⟩, ⟨⟨(fk 4 (by decide)).trans a5.1, fun j hj => (fo 355 (by decide) (by decide) (by decide) j).trans (a5.2 j hj)⟩, ⟨(fk 8 (by decide)).trans a6.1, fun j hj => (fo 356 (by decide) (by decide) (by decide) j).trans (a6.2 j hj)⟩⟩, (fk 5 (by decide)).trans a7, (fk 6 (by decide)).trans a8⟩, po_fr_trans po_fm9 (po_fr_trans (po_fm_m f4) (po_fr_I (by decide)))⟩
      · rw [po_in_in (y := 0) (z := 1) hq0 hq1 (by decide) rfl rfl rfl, Option.bind_some]
        refine po_jn (fun k1 e1 => ?_)
        rw [if_pos rfl, e1]
        dsimp only
        rw [po_fails_0, Option.bind_some, if_neg Bool.false_ne_true, show (7 : Int32) + nI q = nI (7 + q) from nI_add 7 q, show gX11_copyBlock 0 (nI (7 + q)) (ms_I h 352 9 0) = some c from f1, Option.bind_some, if_pos (po_ibd hq (by decide)), nI_clamp (by omega), Option.bind_some, if_pos po_m0]
        exact congrArg (fun z => some (z, ms_I c 354 q 1)) s0.1.1
      · rw [po_I3 (by decide), f4.1 352 (by decide), po_I1]
      · obtain ⟨v1, v2⟩ := a3.2 i S' hi
        show sm_S S' ((sa_U A).length - i) _ ∧ sm_C (sa_C A) ((sa_U A).length - i) _
        exact ⟨sm_blk (o4 S' (List.mem_of_getElem? hi)) v1 (fun j _ => hk _ (by omega)), sm_C_blk o1 v2 (fun j _ => hk _ (by omega))⟩
      · show (¬ mh_I (ms_I c 354 q 1) 354 k = 0 ↔ (if k = q then some (sa_S A) else sa_V A k).isSome = true) ∧ ∀ S, (if k = q then some (sa_S A) else sa_V A k) = some S → sm_S S (7 + k) (ms_I c 354 q 1) ∧ sm_C (sa_C A) (7 + k) (ms_I c 354 q 1)
        by_cases hkq : k = q
        · subst hkq
          rw [if_pos rfl, po_I1]
          refine ⟨⟨fun _ => rfl, fun _ => by decide⟩, fun S hS => ?_⟩
          rw [← Option.some.inj hS]
          exact ⟨sm_blk o2 a2 hb, sm_C_blk o1 a1 hb⟩
        · rw [if_neg hkq, po_I4 hkq, f4.1 354 (by decide), po_I3 (by decide)]
          refine ⟨(a4 k hk2).1, fun S hS => ?_⟩
          obtain ⟨v1, v2⟩ := (a4 k hk2).2 S hS
          exact ⟨sm_blk (o5 k S hS) v1 (fun j _ => hk _ (by omega)), sm_C_blk o1 v2 (fun j _ => hk _ (by omega))⟩
  · refine op_no ok (t := 1) (v := 0) lc_1a (by decide) (fun h H => ?_) (fun h H => ?_)
    · unfold gX10_save
      rw [pc_slotn hx]
      rfl
    · unfold gX11_save
      rw [po_in_no' (y := 0) (z := 1) hx rfl rfl, Option.bind_some]
      refine po_jn (fun k1 e1 => ?_)
      rw [if_neg (by decide), e1]
      dsimp only
      rw [po_fails_1, Option.bind_some, if_pos rfl]
/-! restore -/
theorem sa_rest_ok (ok : sa_ok A) {k : Nat} {S : sp_S} (hV : sa_V A k = some S) : sa_ok (sa_U1 A S []) := by
  obtain ⟨⟨o1, o2⟩, ⟨o3, o4⟩, o5, o6, o7, o8, o9⟩ := ok
  exact ⟨⟨o1, o5 k S hV⟩, ⟨Nat.zero_le _, fun S' hS => by cases hS⟩, o5, o6, o7, o8, o9.2.2 k S hV, (fun S' hS => by cases hS), o9.2.2⟩
theorem sc_U_nil {h h' : mm_H} {U : List sp_S} (H : sc_U U h) (e1 : mh_I h' 90 1 = mh_I h 90 1) (e2 : mh_I h' 90 2 = 0) : sc_U [] h' := by
  obtain ⟨nx, h1, h2, h3, h4⟩ := H
  exact ⟨nx, h1, e1.trans h2, e2, fun i S hi => by cases hi⟩
theorem op_restore (x : Int32) : op_run (lc_2 po_IO po_IS) (gX10_restore x) (gX11_restore x) := by
  intro A ok
  rcases po_cr x (a := 0) (b := 1) (by decide) (by decide) with ⟨q, hq0, hq1, rfl⟩ | hx
  · have hq : q < 2 := by omega
    have hg : ∀ {h : mm_H}, gX4_get (281 + 2) (nI q) h = some (mh_I h 284 q) := fun {h} => po_get (by rw [po_c283]; exact hq) (by rw [po_c283]; decide)
    cases hV : sa_V A q with
    | none =>
      refine op_no ok (t := 2) (v := 0) lc_2s (by decide) (fun h H => ?_) (fun h H => ?_)
      · have hv := (H.2.1.2 q hq).1
        rw [hV] at hv
        have hne : ¬ mh_I h 284 q = 1 := fun z => absurd (hv.mp z) (by decide)
        unfold gX10_restore gX6_holds
        rw [pc_slot hq, Option.bind_some]
        dsimp only
        rw [hg, Option.bind_some, if_neg hne, Option.bind_some, if_neg (by decide)]
      · have hv := (H.2.1.2 q hq).1
        rw [hV] at hv
        have he : mh_I h 354 q = 0 := Decidable.byContradiction (fun z => absurd (hv.mp z) (by decide))
        unfold gX11_restore
        rw [po_in_in (y := 0) (z := 1) hq0 hq1 (by decide) rfl rfl rfl, Option.bind_some]
        refine po_jn (fun k1 e1 => ?_)
        rw [if_pos rfl, e1]
        dsimp only
        refine po_jn (fun k2 e2 => ?_)
        refine po_jn (fun k3 e3 => ?_)
        rw [if_pos rfl, if_pos (po_ibd hq (by decide)), nI_clamp (by omega), he, if_pos rfl, e2]
        dsimp only
        rw [po_fails_2, Option.bind_some, if_pos rfl]
    | some S =>
      have okA := sa_rest_ok ok hV
      obtain ⟨⟨o1, o2⟩, ⟨o3, o4⟩, o5, o6, o7⟩ := ok
      have okS := o5 q S hV
      refine ⟨sa_U1 A S [], okA, Or.inl ⟨nI (sp_dy S), fun h H => ?_, fun h H => ?_⟩⟩
      · obtain ⟨⟨h1, h2⟩, ⟨h3, h4⟩, ⟨h5, h6⟩, h7, h8⟩ := H
        obtain ⟨v1, v2⟩ := h4 q hq
        have he : mh_I h 284 q = 1 := v1.mpr (by rw [hV]; rfl)
        obtain ⟨a, e1, e2, e3⟩ := pc_fetch (o := 281) (n := 2) (k := q) (h := h) po_c281 (by decide) hq (po_kd285 q hq) (by omega)
        have hf : po_fr (fun z => z == 90 || po_in 21 z) h (ms_I a 90 2 0) := po_fr_trans (po_fr_mono e3 (fun z hz => (Bool.or_eq_false_iff.mp hz).2)) (po_fr_I (by decide))
        have hn : ∀ z, z < 21 ∨ (52 ≤ z ∧ z < 90) ∨ 90 < z → (z == 90 || po_in 21 z) = false := fun z hz => by
          rw [po_in_no (by omega)]
          simp
          omega
        have hS : sc_S S 21 (ms_I a 90 2 0) := sc_fr (C := fun z => z == 90) (e2 S okS (v2 S hV)) (po_fr_I (by decide)) (fun z hz => by
          have hz' : 21 ≤ z ∧ z < 21 + 31 := of_decide_eq_true hz
          simp
          omega)
        unfold gX10_restore gX6_holds gX2_forget
        rw [pc_slot hq, Option.bind_some]
        dsimp only
        rw [hg, Option.bind_some, if_pos he, Option.bind_some, if_pos rfl, e1, Option.bind_some, Option.bind_some, Option.bind_some, hS.1.1]
        exact ⟨_, rfl, ⟨⟨sc_C_fr h1 hf (hn _ (by decide)) (hn _ (by decide)) (hn _ (by decide)) (hn _ (by decide)), hS⟩, ⟨sc_U_nil h3 (by rw [po_I4 (by decide), e3.1 90 (po_in_no (by decide))]) po_I1, sc_V_fr h4 hf (fun z _ _ => hn z (by omega))⟩, ⟨sc_T_fr h5 hf (hn _ (by decide)) (hn _ (by decide)), sc_T_fr h6 hf (hn _ (by decide)) (hn _ (by decide))⟩, (hf.1 5 (hn _ (by decide)) 1).trans h7, (hf.1 5 (hn _ (by decide)) 2).trans h8⟩, po_fr_mono hf (fun z hz => hn z (by have := po_fc_no hz; omega))⟩
      · obtain ⟨⟨a1, a2⟩, ⟨a3, a4⟩, ⟨a5, a6⟩, a7, a8⟩ := H
        obtain ⟨v1, v2⟩ := a4 q hq
        obtain ⟨s1, s2⟩ := v2 S hV
        have he : ¬ mh_I h 354 q = 0 := v1.mpr (by rw [hV]; rfl)
        obtain ⟨c, f1, f2, f3, f4⟩ := pm_copy (f := 7 + q) (t := 0) (h := ms_I h 352 9 0) (by omega) (by decide) (by omega)
        have g3 : ∀ k, mh_I (ms_I h 352 9 0) 353 k = mh_I h 353 k := fun k => po_I3 (by decide)
        have fk : ∀ k, k ≠ 9 → mh_I c 352 k = mh_I h 352 k := fun k hk => by rw [f4.1 352 (by decide), po_I4 hk]
        have fo : ∀ o, po_m353 o = false → o ≠ 352 → ∀ k, mh_I (ms_I c 352 2 0) o k = mh_I h o k := fun o ho hn k => by rw [po_I3 hn, f4.1 o ho, po_I3 hn]
        have h0 : ∀ j, j < 420 → mh_I (ms_I c 352 2 0) 353 (420 * 0 + j) = mh_I h 353 (420 * (7 + q) + j) := fun j hj => by
          rw [po_I3 (by decide), f2 j hj, g3]
        have hk : ∀ k, 420 ≤ k → mh_I (ms_I c 352 2 0) 353 k = mh_I h 353 k := fun k hk => by
          rw [po_I3 (by decide), f3 k (by omega), g3]
        have hS := sm_blk okS s1 h0
        unfold gX11_restore
        refine ⟨ms_I c 352 2 0, ?_, ?_, ⟨⟨sm_C_blk o1 s2 h0, hS⟩, ⟨⟨po_I1, fun i S' hi => by cases hi⟩, fun k hk2 => ⟨by rw [fo 354 (by decide) (by decide)]; exact (a4 k hk2).1, fun S' hS' => ?_⟩⟩, ⟨⟨(po_I4 (by decide)).trans ((fk 4 (by decide)).trans a5.1), fun j hj => (fo 355 (by decide) (by decide) j).trans (a5.2 j hj)⟩, ⟨(po_I4 (by decide)).trans ((fk 8 (by decide)).trans a6.1), fun j hj => (fo 356 (by decide) (by decide) j).trans (a6.2 j hj)⟩⟩, (po_I4 (by decide)).trans ((fk 5 (by decide)).trans a7), (po_I4 (by decide)).trans ((fk 6 (by decide)).trans a8)⟩, po_fr_trans po_fm9 (po_fr_trans (po_fm_m f4) (po_fr_I (by decide)))⟩
        · rw [po_in_in (y := 0) (z := 1) hq0 hq1 (by decide) rfl rfl rfl, Option.bind_some]
          refine po_jn (fun k1 e1 => ?_)
          rw [if_pos rfl, e1]
          dsimp only
          refine po_jn (fun k2 e2 => ?_)
          refine po_jn (fun k3 e3 => ?_)
          rw [if_pos rfl, if_pos (po_ibd hq (by decide)), nI_clamp (by omega), if_neg he, e3]
          dsimp only
          rw [e2]
          dsimp only
          rw [po_fails_0, Option.bind_some, if_neg Bool.false_ne_true, show (7 : Int32) + nI q = nI (7 + q) from nI_add 7 q, show gX11_copyBlock (nI (7 + q)) 0 (ms_I h 352 9 0) = some c from f1, Option.bind_some, Option.bind_some, if_pos po_m0]
          exact congrArg (fun z => some (z, ms_I c 352 2 0)) hS.1.1
        · rw [po_I4 (by decide), f4.1 352 (by decide), po_I1]
        · obtain ⟨w1, w2⟩ := (a4 k hk2).2 S' hS'
          exact ⟨sm_blk (o5 k S' hS') w1 (fun j _ => hk _ (by omega)), sm_C_blk o1 w2 (fun j _ => hk _ (by omega))⟩
  · refine op_no ok (t := 1) (v := 0) lc_2a (by decide) (fun h H => ?_) (fun h H => ?_)
    · unfold gX10_restore
      rw [pc_slotn hx]
      rfl
    · unfold gX11_restore
      rw [po_in_no' (y := 0) (z := 1) hx rfl rfl, Option.bind_some]
      refine po_jn (fun k1 e1 => ?_)
      rw [if_neg (by decide), e1]
      dsimp only
      refine po_jn (fun k2 e2 => ?_)
      refine po_jn (fun k3 e3 => ?_)
      rw [if_neg (by decide), e3]
      dsimp only
      rw [e2]
      dsimp only
      rw [po_fails_1, Option.bind_some, if_pos rfl]
end PQG

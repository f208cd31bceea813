section PQX
/-! load -/
variable {T : sp_T} {h : mm_H} {C : sp_C} {S : sp_S} {A : sp_A}
section
variable {β : Type}
def op_cw (G : mm_H → Option ((β ⊕ String) × mm_H)) (A : sp_A) (v : β) (A' : sp_A) : Prop := ∀ h, ra_c A h → ∃ h1, G h = some (.inl v, h1) ∧ ra_c A' h1 ∧ po_fw po_fc h h1
def op_xw (G : mm_H → Option ((β ⊕ String) × mm_H)) (A : sp_A) (E : String) (A' : sp_A) : Prop := ∀ h, ra_c A h → ∃ h1, G h = some (.inr E, ms_X h1) ∧ ra_c A' h1 ∧ po_fw po_fc h h1
end
/-- as sc_.._fr, over frames that say nothing of references -/
theorem po_fw_fr {D : Nat → Bool} {a b : mm_H} (h : po_fw D a b) : ∃ b', mh_I b' = mh_I b ∧ po_fr D a b' := ⟨(b.1, mh_I b, mh_R a, mh_J b, mh_D b), rfl, h.1, h.2.1, rfl, h.2.2.1, h.2.2.2⟩
theorem sc_S_X {o : Nat} {a b : mm_H} (H : sc_S S o a) (he : mh_I b = mh_I a) : sc_S S o b := by
  unfold sc_S
  rw [he]
  exact H
theorem sc_C_X {o : Nat} {a b : mm_H} (H : sc_C C o a) (he : mh_I b = mh_I a) : sc_C C o b := by
  unfold sc_C
  rw [he]
  exact H
theorem ra_c_fw {h' : mm_H} {D : Nat → Bool} (H : ra_c A h) (hf : po_fw D h h') (h0 : ∀ q, q < 347 → D q = false) : ra_c A h' := by
  obtain ⟨b, e, f⟩ := po_fw_fr hf
  exact ra_c_X (ra_c_fr H f h0) e.symm
theorem sc_C_cp {o p : Nat} (H : sc_C C p h) (ok : sp_cok C) (hd : ∀ d, d ≤ 6 → p + d ≠ o ∧ p + d ≠ o + 2 ∧ p + d ≠ o + 4 ∧ p + d ≠ o + 6) (c1 : mm_cap (o + 1) = 48) (c3 : mm_cap (o + 3) = 8) (c5 : mm_cap (o + 5) = 8) (d1 : mm_cap (p + 1) = 48) (d3 : mm_cap (p + 3) = 8) (d5 : mm_cap (p + 5) = 8) :
    ∃ h', gX1_copyFrom o p h = some h' ∧ sc_C C o h' ∧ po_fr (fun z => z == o || (z == o + 2 || (z == o + 4 || z == o + 6))) h h' := by
  have n8 := ok.1
  unfold gX1_copyFrom
  rw [Option.bind_some]
  obtain ⟨x1, e1, g1, f1⟩ := po_cpy (h := ms_I h o 0 (mh_I h p 0)) c1 d1 (by decide)
  rw [e1, Option.bind_some]
  obtain ⟨x2, e2, g2, f2⟩ := po_cpy (h := x1) c3 d3 (by decide)
  rw [e2, Option.bind_some]
  obtain ⟨x3, e3, g3, f3⟩ := po_cpy (h := x2) c5 d5 (by decide)
  rw [e3, Option.bind_some]
  have q2 := hd 2 (by decide)
  have q4 := hd 4 (by decide)
  have q6 := hd 6 (by decide)
  have b2 : ∀ k, mh_I (ms_I h o 0 (mh_I h p 0)) (p + 2) k = mh_I h (p + 2) k := fun k => po_I3 (by omega)
  have b4 : ∀ k, mh_I x1 (p + 4) k = mh_I h (p + 4) k := fun k => by rw [f1.1 _ (by simp; omega), po_I3 (by omega)]
  have b6 : ∀ k, mh_I x2 (p + 6) k = mh_I h (p + 6) k := fun k => by rw [f2.1 _ (by simp; omega), f1.1 _ (by simp; omega), po_I3 (by omega)]
  refine ⟨x3, rfl, ⟨?_, fun q hq => ?_⟩, po_fr_trans (po_fr_I (by simp)) (po_fr_trans (po_fr_mono f1 (fun z hz => ?_)) (po_fr_trans (po_fr_mono f2 (fun z hz => ?_)) (po_fr_mono f3 (fun z hz => ?_))))⟩
  · rw [f3.1 o (by simp; omega), f2.1 o (by simp; omega), f1.1 o (by simp; omega), po_I1]
    exact H.1
  · obtain ⟨u1, u2, u3⟩ := H.2 q hq
    have h6 := (ok.2 q hq).1
    refine ⟨?_, fun j hj => ?_, ?_⟩
    · rw [f3.1 (o + 4) (by simp)]
      exact (g2 q (by omega)).trans ((b4 q).trans u1)
    · rw [f3.1 (o + 2) (by simp), f2.1 (o + 2) (by simp)]
      exact (g1 _ (by omega)).trans ((b2 _).trans (u2 j hj))
    · exact (g3 q (by omega)).trans ((b6 q).trans u3)
  · simp at hz ⊢
    omega
  · simp at hz ⊢
    omega
  · simp at hz ⊢
    omega
theorem po_c19' : mm_cap (14 + 5) = 8 := by decide +kernel
/-- after a text has been parsed -/
def sa_err (A : sp_A) (e : Nat × Nat) : sp_A := (A.1, A.2.1, ((0, (sa_T A).2), sa_W A), (e.1, nI e.2))
def sa_load (A : sp_A) (C : sp_C) (S : sp_S) : sp_A := ((C, S), ([], fun _ => none), ((0, (sa_T A).2), sa_W A), (0, -1))
theorem sa_err_ok (ok : sa_ok A) (e : Nat × Nat) : sa_ok (sa_err A e) := by
  obtain ⟨o1, o2, o3, o4, o5, o6, o7⟩ := ok
  exact ⟨o1, o2, o3, ⟨Nat.zero_le _, o4.2⟩, o5, trivial, o7⟩
theorem sa_load_ok (ok : sa_ok A) (hC : sp_cok C) (hS : sp_ok S) (hd : sp_dy S = 0) : sa_ok (sa_load A C S) := by
  obtain ⟨o1, o2, o3, o4, o5, o6, o7⟩ := ok
  exact ⟨⟨hC, hS⟩, ⟨Nat.zero_le _, fun S' hS' => by cases hS'⟩, (fun k S' hS' => by cases hS'), ⟨Nat.zero_le _, o4.2⟩, o5, trivial, (by show sp_dy S ≤ 9999; omega), (fun S' hS' => by cases hS'), fun k S' hS' => by cases hS'⟩
theorem po_pf_c {z : Nat} (hz : po_fc z = false) : po_pf z = false := by
  have := po_fc_no hz
  exact po_pf_no (by omega)
/-- the class's error, its text cut -/
theorem ra_c_err {h1 h2 : mm_H} {e : Nat × Nat} (H : ra_c A h) (hf : po_fw po_pf h h1) (he : tc_err e h1) (hT : sc_T (0, (sa_T A).2) 1 h2) (h12 : po_fr (fun z => z == 1) h1 h2) : ra_c (sa_err A e) h2 := by
  obtain ⟨b, eb, fb⟩ := po_fw_fr hf
  have f2 : po_fr (fun z => z == 1 || po_pf z) h (h2.1, mh_I h2, mh_R h, mh_J h2, mh_D h2) := ⟨fun o ho k => by
    obtain ⟨h1', h2'⟩ := Bool.or_eq_false_iff.mp ho
    show mh_I h2 o k = _
    rw [h12.1 o h1', hf.1 o h2'], h12.2.1.trans hf.2.1, rfl, h12.2.2.2.1.trans hf.2.2.1, h12.2.2.2.2.trans hf.2.2.2⟩
  obtain ⟨⟨a1, a2⟩, ⟨a3, a4⟩, ⟨a5, a6⟩, a7, a8⟩ := H
  have hn : ∀ z, ¬ (z = 1 ∨ z = 5 ∨ z = 6 ∨ (52 ≤ z ∧ z < 90)) → (z == 1 || po_pf z) = false := fun z hz => by
    rw [po_pf_no (by omega)]
    simp
    omega
  refine ra_c_X (h := (h2.1, mh_I h2, mh_R h, mh_J h2, mh_D h2)) ⟨⟨sc_C_fr a1 f2 (hn _ (by decide)) (hn _ (by decide)) (hn _ (by decide)) (hn _ (by decide)), sc_fr a2 f2 (fun q hq => ?_)⟩, ⟨sc_U_fr a3 f2 (fun q _ _ => hn q (by omega)), sc_V_fr a4 f2 (fun q _ _ => hn q (by omega))⟩, ⟨hT, sc_T_fr a6 f2 (hn _ (by decide)) (hn _ (by decide))⟩, ?_, ?_⟩ rfl
  · have hq' : 21 ≤ q ∧ q < 21 + 31 := of_decide_eq_true hq
    exact hn q (by omega)
  · exact (h12.1 5 (by decide) 1).trans he.1
  · exact (h12.1 5 (by decide) 2).trans he.2
theorem oc_load (H : ra_c A h) (ok : sa_ok A) : (∃ C S, sp_setup (sa_T A) = .inr (C, S) ∧ sp_cok C ∧ sp_ok S ∧ sp_dy S = 0 ∧ ∃ h1, gX10_load h = some (.inl (nI (sp_np C)), h1) ∧ ra_c (sa_load A C S) h1 ∧ po_fw po_fc h h1) ∨
    (∃ e, sp_setup (sa_T A) = .inl e ∧ ∃ h1, gX10_load h = some (.inr po_IA, ms_X h1) ∧ ra_c (sa_err A e) h1 ∧ po_fw po_fc h h1) := by
  obtain ⟨hl, hb⟩ := ok.2.2.2.1
  have HT := H.2.2.1.1
  unfold gX10_load
  rcases tc_setup HT hl hb with ⟨C, S, s1, s2, s3, s4, h1, e1, HC, HS, E, f1⟩ | ⟨e, s1, h1, e1, E, f1⟩
  · have HT1 : sc_T (sa_T A) 1 h1 := ⟨(f1.1 1 (by decide) 1).trans HT.1, fun j hj => by rw [f1.1 2 (by decide)]; exact HT.2 j hj⟩
    obtain ⟨h2, e2, H2, f2⟩ := pc_cut (n := 0) HT1 (Nat.zero_le _) (by omega)
    have HC2 := sc_C_fr HC f2 (by decide) (by decide) (by decide) (by decide)
    have HS2 := sc_fr HS f2 (fun q hq => by
      have hq' : 59 ≤ q ∧ q < 59 + 31 := of_decide_eq_true hq
      simp
      omega)
    obtain ⟨h3, e3, H3, f3⟩ := sc_C_cp (o := 14) (p := 52) HC2 s2 (fun d hd => by omega) po_c15' po_c17' po_c19' po_c53 po_c55 po_c57
    have HS3 := sc_fr HS2 f3 (fun q hq => by
      have hq' : 59 ≤ q ∧ q < 59 + 31 := of_decide_eq_true hq
      simp
      omega)
    obtain ⟨h4, e4, k1, k2, k3, k4⟩ := pc_copyS (o := 21) (p := 59) (h := h3) po_k21 po_k59 (po_dis (by decide))
    have H4 := sc_cp po_k21 s3 HS3 k1 k2 k3 k4
    have HC4 := sc_C_fr H3 k1.1 (po_in_no (by decide)) (po_in_no (by decide)) (po_in_no (by decide)) (po_in_no (by decide))
    obtain ⟨h5, e5, z5, f5⟩ := po_zero (o := 281 + 2) (h := h4) po_c283 (by decide)
    have HC5 := sc_C_fr HC4 f5 (by decide) (by decide) (by decide) (by decide)
    have H5 := sc_fr H4 f5 (fun q hq => by
      have hq' : 21 ≤ q ∧ q < 21 + 31 := of_decide_eq_true hq
      simp
      omega)
    have f6 : po_fr (fun z => z == 90) h5 (ms_I h5 90 2 0) := po_fr_I (by decide)
    have HC6 := sc_C_fr HC5 f6 (by decide) (by decide) (by decide) (by decide)
    have H6 := sc_fr H5 f6 (fun q hq => by
      have hq' : 21 ≤ q ∧ q < 21 + 31 := of_decide_eq_true hq
      simp
      omega)
    unfold gX6_empty gX2_forget
    rw [e1, Option.bind_some, show gX8_cutTo 1 0 h1 = some h2 from e2, Option.bind_some, if_pos rfl, e3, Option.bind_some, e4, Option.bind_some, e5, Option.bind_some, Option.bind_some, Option.bind_some, Option.bind_some, HC6.1]
    -- what is left alone, in one frame
    have hfw : po_fw (fun z => (z == 1 || po_pf z) || ((z == 14 || (z == 16 || (z == 18 || z == 20))) || (po_in 21 z || (z == 284 || z == 90)))) h (ms_I h5 90 2 0) := by
      refine po_fw_trans (po_fw_mono f1 (fun z hz => ?_)) (po_fw_trans (po_fw_of (po_fr_mono f2 (fun z hz => ?_))) (po_fw_trans (po_fw_of (po_fr_mono f3 (fun z hz => ?_))) (po_fw_trans (po_fw_of (po_fr_mono k1.1 (fun z hz => ?_))) (po_fw_trans (po_fw_of (po_fr_mono f5 (fun z hz => ?_))) (po_fw_of (po_fr_mono f6 (fun z hz => ?_)))))))
      · exact (Bool.or_eq_false_iff.mp (Bool.or_eq_false_iff.mp hz).1).2
      · exact (Bool.or_eq_false_iff.mp (Bool.or_eq_false_iff.mp hz).1).1
      · exact (Bool.or_eq_false_iff.mp (Bool.or_eq_false_iff.mp hz).2).1
      · exact (Bool.or_eq_false_iff.mp (Bool.or_eq_false_iff.mp (Bool.or_eq_false_iff.mp hz).2).2).1
      · exact (Bool.or_eq_false_iff.mp (Bool.or_eq_false_iff.mp (Bool.or_eq_false_iff.mp (Bool.or_eq_false_iff.mp hz).2).2).2).1
      · exact (Bool.or_eq_false_iff.mp (Bool.or_eq_false_iff.mp (Bool.or_eq_false_iff.mp (Bool.or_eq_false_iff.mp hz).2).2).2).2
    refine Or.inl ⟨C, S, s1, s2, s3, s4, _, rfl, ⟨⟨HC6, H6⟩, ⟨sc_U_nil H.2.1.1 ?_ po_I1, fun k hk => ⟨?_, fun S' hS' => by cases hS'⟩⟩, ⟨⟨?_, fun j hj => absurd hj (Nat.not_lt_zero _)⟩, ⟨?_, fun j hj => ?_⟩⟩, ?_, ?_⟩, po_fw_mono hfw (fun z hz => ?_)⟩
    · exact (po_I4 (by decide)).trans ((f5.1 90 (by decide) 1).trans ((k1.1.1 90 (po_in_no (by decide)) 1).trans ((f3.1 90 (by decide) 1).trans ((f2.1 90 (by decide) 1).trans (f1.1 90 (by decide) 1)))))
    · rw [po_I3 (by decide), show (284 : Nat) = 281 + 2 + 1 from rfl, z5 k hk]
      exact ⟨fun z => absurd z (by decide), fun z => by cases z⟩
    · rw [po_I3 (by decide), f5.1 1 (by decide), k1.1.1 1 (po_in_no (by decide)), f3.1 1 (by decide)]
      exact H2.1
    · exact (hfw.1 3 (by decide) 1).trans H.2.2.1.2.1
    · rw [hfw.1 4 (by decide) j]
      exact H.2.2.1.2.2 j hj
    · exact (po_I3 (by decide)).trans ((f5.1 5 (by decide) 1).trans ((k1.1.1 5 (po_in_no (by decide)) 1).trans ((f3.1 5 (by decide) 1).trans ((f2.1 5 (by decide) 1).trans E.1))))
    · exact (po_I3 (by decide)).trans ((f5.1 5 (by decide) 2).trans ((k1.1.1 5 (po_in_no (by decide)) 2).trans ((f3.1 5 (by decide) 2).trans ((f2.1 5 (by decide) 2).trans E.2))))
    · have := po_fc_no hz
      rw [po_pf_c hz, po_in_no (by omega)]
      simp
      omega
  · have HT1 : sc_T (sa_T A) 1 h1 := ⟨(f1.1 1 (by decide) 1).trans HT.1, fun j hj => by rw [f1.1 2 (by decide)]; exact HT.2 j hj⟩
    obtain ⟨h2, e2, H2, f2⟩ := pc_cut (n := 0) HT1 (Nat.zero_le _) (by omega)
    rw [e1, Option.bind_some, show gX8_cutTo 1 0 h1 = some h2 from e2, Option.bind_some, if_neg Bool.false_ne_true]
    refine Or.inr ⟨e, s1, h2, rfl, ra_c_err H f1 E H2 f2, po_fw_trans (po_fw_mono f1 (fun z hz => po_pf_c hz)) (po_fw_of (po_fr_mono f2 (fun z hz => ?_)))⟩
    have := po_fc_no hz
    simp
    omega
end PQX

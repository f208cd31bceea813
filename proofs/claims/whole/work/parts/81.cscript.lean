section PRA
/-! scripts: the class parses -/
variable {T : sp_T} {h : mm_H} {t : sp_K} {C : sp_C} {A : sp_A}
theorem sc_C_fw {C : sp_C} {o : Nat} {h h' : mm_H} {D : Nat → Bool} (H : sc_C C o h) (hf : po_fw D h h') (h0 : D o = false) (h2 : D (o + 2) = false) (h4 : D (o + 4) = false) (h6 : D (o + 6) = false) : sc_C C o h' :=
  ⟨(hf.1 o h0 0).trans H.1, fun p hp => ⟨(hf.1 _ h4 p).trans (H.2 p hp).1, fun j hj => (hf.1 _ h2 _).trans ((H.2 p hp).2.1 j hj), (hf.1 _ h6 p).trans (H.2 p hp).2.2⟩⟩
theorem po_jx {α β : Type} {K : α} {G : α → β} {X : β} (e : mm_jn K G = X) : ∃ k, k = K ∧ X = G k := ⟨K, rfl, e.symm⟩
theorem tc_take {P : List sp_Q} (H : tc_at T t h) (hC : sc_C C 14 h) (ok : sp_cok C) (HQ : sc_Q P h) (hP : P.length < 30) (hq : ∀ q, q ∈ P → q.2.length ≤ 4) :
    (∃ c l t', sp_ch T t = some c ∧ sp_args T C c (sp_nx T t) = .inr (l, t') ∧ ∃ h', gX3_takeCommand 14 h = some (true, h') ∧ tc_at T t' h' ∧ sc_Q (P ++ [(c, l)]) h' ∧ po_fr po_sq h h') ∨
    (∃ e, ((sp_ch T t = none ∧ e = (1, sk_s t)) ∨ ∃ c, sp_ch T t = some c ∧ sp_args T C c (sp_nx T t) = .inl e) ∧ ∃ h', gX3_takeCommand 14 h = some (false, h') ∧ tc_err e h' ∧ po_fr po_sqe h h') := by
  unfold gX3_takeCommand
  rw [tc_cmdHere H, Option.bind_some]
  cases hc : sp_ch T t with
  | none =>
    obtain ⟨h', e1, e2, e3⟩ := tc_fail (c := 1) (x := 1) H rfl
    rw [if_pos (show sp_fi none = -1 from rfl), e1, Option.bind_some]
    exact Or.inr ⟨_, Or.inl ⟨rfl, rfl⟩, h', rfl, e2, po_sq5 e3⟩
  | some c =>
    have hc8 := sp_ch_le hc
    have hn4 : 1 + sp_nn c ≤ 4 := by
      have := sp_nn_le c
      omega
    obtain ⟨h1, e1, H1, f1⟩ := tc_next H
    have HQ1 := sc_Q_fr HQ f1 (by decide) (by decide) (by decide)
    obtain ⟨h2, e2, HQ2, k2, f2⟩ := tc_addCmd (c := c) HQ1 hP hq
    have H2 := tc_at_fr H1 f2 (by decide) (by decide) (by decide)
    have hC2 := sc_C_fr (sc_C_fr hC f1 (by decide) (by decide) (by decide) (by decide)) f2 (by decide) (by decide) (by decide) (by decide)
    have f12 : po_fr po_sq h h2 := po_fr_trans (po_sq6 f1) (po_sqn f2)
    rw [if_neg (show ¬ sp_fi (some c) = -1 from po_nm1 (by omega)), e1, Option.bind_some, show sp_fi (some c) = nI c from rfl, e2, Option.bind_some, tc_np c (by omega), Option.bind_some]
    generalize ej : mm_jn _ _ = X
    obtain ⟨k1, g1, ej⟩ := po_jx ej
    rw [ej]
    clear ej
    -- the numbers behind a product's name, or without one
    have tail : ∀ l t1 h3, tc_at T t1 h3 → sc_Q (P ++ [(c, l)]) h3 → mh_I h3 9 1 = nI l.length → l.length ≤ 1 → sp_cname T C c (sp_nx T t) = .inr (l, t1) → po_fr po_sq h h3 →
        (∃ c' l' t', some c = some c' ∧ sp_args T C c' (sp_nx T t) = .inr (l', t') ∧ ∃ h', k1 h3 = some (true, h') ∧ tc_at T t' h' ∧ sc_Q (P ++ [(c', l')]) h' ∧ po_fr po_sq h h') ∨
        (∃ e, ((some c = none ∧ e = (1, sk_s t)) ∨ ∃ c', some c = some c' ∧ sp_args T C c' (sp_nx T t) = .inl e) ∧ ∃ h', k1 h3 = some (false, h') ∧ tc_err e h' ∧ po_fr po_sqe h h') := by
      intro l t1 h3 H3 HQ3 k3 hl hcn f3
      have ea : sp_args T C c (sp_nx T t) = (match sp_nums T (sp_nn c) t1 with | .inl e => .inl e | .inr z => if sk_k z.2 = 3 then .inr (l ++ z.1, sp_nx T z.2) else .inl (1, sk_s z.2)) := by
        unfold sp_args
        rw [hcn]
        rfl
      rw [g1]
      dsimp only
      rcases tc_nums (c := c) (by omega) hP hq (sp_nn c) mm_F 0 l t1 h3 H3 HQ3 k3 (by omega) (by omega) (Nat.lt_of_le_of_lt (sp_nn_le c) (by decide)) with ⟨l2, t2, s1, s2, h', d1, d2, d3, d4⟩ | ⟨e, s1, h', d1, d2, d3⟩
      · refine Or.inl ⟨c, l ++ l2, sp_nx T t2, rfl, ?_, h', d1, d2, d3, po_fr_trans f3 d4⟩
        rw [ea, s1]
        dsimp only
        rw [if_pos s2]
      · refine Or.inr ⟨e, Or.inr ⟨c, rfl, ?_⟩, h', d1, d2, po_fr_trans (po_sq_e f3) d3⟩
        rw [ea]
        exact s1
    by_cases h2c : c ≤ 2
    · rw [decide_eq_true h2c, if_pos rfl]
      rcases tc_known H2 hC2 ok (by decide +kernel) (by decide +kernel) with ⟨b1, p, b2, h3, e3, H3, f3⟩ | ⟨c', b1, h3, e3, E3, f3⟩
      · have hp := sp_nm_lt b2
        have h8 := ok.1
        have HQ3 := sc_Q_fr HQ2 f3 (by decide) (by decide) (by decide)
        obtain ⟨h4, e4, HQ4, k4, f4⟩ := tc_addArg (v := p) HQ3 ((f3.1 9 (by decide) 1).trans k2) (show ([] : List Nat).length < 4 by decide) hP hq
        have H4 := tc_at_fr H3 f4 (by decide) (by decide) (by decide)
        rw [e3, Option.bind_some, if_neg (show ¬ nI p = -1 from po_nm1 (by omega)), e4, Option.bind_some]
        refine tail [p] _ h4 H4 HQ4 k4 (Nat.le_refl _) ?_ (po_fr_trans f12 (po_fr_trans (po_sq6 f3) (po_sqn f4)))
        unfold sp_cname sp_knerr
        rw [if_pos h2c, if_pos b1, b2]
        rfl
      · rw [e3, Option.bind_some, if_pos rfl]
        refine Or.inr ⟨(c', sk_s (sp_nx T t)), Or.inr ⟨c, rfl, ?_⟩, h3, rfl, E3, po_fr_trans (po_sq_e f12) (po_sq5 f3)⟩
        unfold sp_args sp_cname
        rw [if_pos h2c, show sp_knerr T C (sp_nx T t) = some c' from b1]
    · rw [decide_eq_false h2c, if_neg Bool.false_ne_true]
      refine tail [] _ h2 H2 HQ2 k2 (by decide) ?_ f12
      unfold sp_cname
      rw [if_neg h2c]
theorem sp_qv_len {q : sp_Q} (h : sp_qv C q) : q.2.length ≤ 4 := by
  have h3 := sp_nn_le q.1
  rw [h.2.1]
  by_cases h2 : q.1 ≤ 2
  · rw [if_pos h2]
    omega
  · rw [if_neg h2]
    omega
theorem tc_scr (ok : sp_cok C) : ∀ m n P t h, tc_at T t h → sc_C C 14 h → sc_Q P h → P.length ≤ 30 → (∀ q, q ∈ P → sp_qv C q) → m + P.length = 31 → m < n →
    (∃ L, sp_scr T C m P.length t = .inr L ∧ (∀ q, q ∈ L → sp_qv C q) ∧ (P ++ L).length ≤ 30 ∧ ∃ h', gX3_parseScript_L12 14 n (nI P.length) h = some (true, h') ∧ sc_Q (P ++ L) h' ∧ po_fr po_sq h h') ∨
    (∃ e, sp_scr T C m P.length t = .inl e ∧ ∃ h', gX3_parseScript_L12 14 n (nI P.length) h = some (false, h') ∧ tc_err e h' ∧ po_fr po_sqe h h') := by
  intro m
  induction m with
  | zero => intro n P t h _ _ _ hP _ h31; omega
  | succ m ih =>
    intro n P t h H hC HQ hP hq h31 hn
    obtain ⟨n, rfl⟩ : ∃ k, n = k + 1 := ⟨n - 1, by omega⟩
    have es : sp_scr T C (m + 1) P.length t = if sk_k t = 0 then .inr [] else match sp_ch T t with | none => .inl (1, sk_s t) | some c => if P.length < 30 then (match sp_args T C c (sp_nx T t) with | .inl e => .inl e | .inr y => match sp_scr T C m (P.length + 1) y.2 with | .inl e => .inl e | .inr l => .inr ((c, y.1) :: l)) else .inl (4, sk_s t) := rfl
    rw [gX3_parseScript_L12, es]
    generalize ej : mm_jn _ _ = X
    obtain ⟨k1, g1, ej⟩ := po_jx ej
    rw [ej]
    clear ej
    by_cases h0 : sk_k t = 0
    · have hz : mh_I h 6 1 = 0 := (tc_k (n := 0) H (by decide)).mpr h0
      have ek : k1 () = some (true, h) := by
        rw [g1]
        dsimp only
        rw [if_pos hz]
      have el : (if nI P.length < 30 then (if mh_I h 6 1 = 0 then k1 () else (gX3_takeCommand 14 h).bind (fun (x18 : (Bool × mm_H)) => if x18.1 = true then (some (nI P.length + 1)).bind (fun (x21 : Int32) => gX3_parseScript_L12 14 n x21 x18.2) else some (false, x18.2))) else k1 ()) = some (true, h) := by
        by_cases h30 : nI P.length < 30
        · rw [if_pos h30, if_pos hz, ek]
        · rw [if_neg h30, ek]
      rw [if_pos h0]
      refine Or.inl ⟨[], rfl, fun q hq' => (by cases hq'), ?_, h, el, ?_, po_fr_refl h⟩
      · rw [List.append_nil]
        exact hP
      · rw [List.append_nil]
        exact HQ
    · have hz : ¬ mh_I h 6 1 = 0 := fun z => h0 ((tc_k (n := 0) H (by decide)).mp z)
      rw [if_neg h0]
      by_cases h30 : P.length < 30
      · rw [if_pos (show nI P.length < 30 from nI_lt h30 (by decide)), if_neg hz]
        rcases tc_take H hC ok HQ h30 (fun q hq' => sp_qv_len (hq q hq')) with ⟨c, l, t', s1, s2, h1, e1, H1, HQ1, f1⟩ | ⟨e, s1, h1, e1, E1, f1⟩
        · obtain ⟨v1, v2⟩ := sp_args_v (sp_ch_le s1) ok (sp_nx_v H.2.2) s2
          have hC1 := sc_C_fr hC f1 (by decide) (by decide) (by decide) (by decide)
          have el : (P ++ [(c, l)]).length = P.length + 1 := by rw [List.length_append]; rfl
          rw [s1, e1, Option.bind_some, if_pos rfl, nI_1, Option.bind_some]
          dsimp only
          rw [if_pos h30, s2]
          dsimp only
          have hi := ih n (P ++ [(c, l)]) t' h1 H1 hC1 HQ1 (by omega) (fun q hq' => by
            rcases List.mem_append.mp hq' with h2 | h2
            · exact hq q h2
            · rw [List.mem_singleton.mp h2]
              exact v1) (by omega) (by omega)
          rw [el] at hi
          rcases hi with ⟨L, a1, a2, a3, h2, a4, a5, a6⟩ | ⟨e, a1, h2, a4, a5, a6⟩
          · rw [a1]
            rw [List.append_assoc] at a3 a5
            refine Or.inl ⟨(c, l) :: L, rfl, fun q hq' => ?_, a3, h2, a4, a5, po_fr_trans f1 a6⟩
            rcases List.mem_cons.mp hq' with h3 | h3
            · rw [h3]
              exact v1
            · exact a2 q h3
          · rw [a1]
            exact Or.inr ⟨e, rfl, h2, a4, a5, po_fr_trans (po_sq_e f1) a6⟩
        · rw [e1, Option.bind_some, if_neg Bool.false_ne_true]
          refine Or.inr ⟨e, ?_, h1, rfl, E1, f1⟩
          rcases s1 with ⟨s1, s2⟩ | ⟨c, s1, s2⟩
          · rw [s1, s2]
          · rw [s1]
            dsimp only
            rw [if_pos h30, s2]
      · rw [if_neg (show ¬ nI P.length < 30 from nI_nlt (b := 30) (by omega) (by omega)), g1]
        dsimp only
        rw [if_neg hz, tc_cmdHere H, Option.bind_some]
        cases hc : sp_ch T t with
        | none =>
          obtain ⟨h', e1, e2, e3⟩ := tc_fail (c := 1) (x := 1) H rfl
          rw [if_pos (show sp_fi none = -1 from rfl), e1, Option.bind_some]
          exact Or.inr ⟨_, rfl, h', rfl, e2, po_sq5 e3⟩
        | some c =>
          have hc8 := sp_ch_le hc
          obtain ⟨h', e1, e2, e3⟩ := tc_fail (c := 4) (x := 4) H rfl
          rw [if_neg (show ¬ sp_fi (some c) = -1 from po_nm1 (by omega)), e1, Option.bind_some]
          dsimp only
          rw [if_neg h30]
          exact Or.inr ⟨_, rfl, h', rfl, e2, po_sq5 e3⟩
/-- what a script says -/
def sp_script (T : sp_T) (C : sp_C) : (Nat × Nat) ⊕ List sp_Q := sp_scr T C 31 0 (sp_tok T 0)
theorem po_sqe_56 {z : Nat} (hz : po_sqe z = false) : (z == 5 || z == 6) = false := by
  have hz' : ¬ (z = 5 ∨ z = 6 ∨ z = 9 ∨ z = 11 ∨ z = 13) := of_decide_eq_false hz
  simp
  omega
theorem tc_script (HT : sc_T T 1 h) (hl : T.1 ≤ 600) (hb : ∀ j, T.2 j < 256) (hC : sc_C C 14 h) (ok : sp_cok C) :
    (∃ L, sp_script T C = .inr L ∧ (∀ q, q ∈ L → sp_qv C q) ∧ L.length ≤ 30 ∧ ∃ h', gX3_parseScript 14 h = some (true, h') ∧ sc_Q L h' ∧ mh_I h' 5 1 = 0 ∧ mh_I h' 5 2 = -1 ∧ po_fw po_sqe h h') ∨
    (∃ e, sp_script T C = .inl e ∧ ∃ h', gX3_parseScript 14 h = some (false, h') ∧ tc_err e h' ∧ po_fw po_sqe h h') := by
  obtain ⟨h1, e1, H1, b1, b2, f1⟩ := tc_begin HT hl hb
  have fq : po_fr po_qn h1 (ms_I h1 9 0 0) := po_fr_I (by decide)
  have H2 := tc_at_fr H1 fq (by decide) (by decide) (by decide)
  have hC2 : sc_C C 14 (ms_I h1 9 0 0) := sc_C_fr (sc_C_fw hC f1 (by decide) (by decide) (by decide) (by decide)) fq (by decide) (by decide) (by decide) (by decide)
  have HQ : sc_Q [] (ms_I h1 9 0 0) := ⟨po_I1, fun i q hi => (by cases hi)⟩
  unfold gX3_parseScript gX5_empty
  rw [e1, Option.bind_some, Option.bind_some, Option.bind_some]
  rcases tc_scr ok 31 mm_F [] (sp_tok T 0) _ H2 hC2 HQ (by decide) (fun q hq => (by cases hq)) rfl (by decide) with ⟨L, a1, a2, a3, h2, a4, a5, a6⟩ | ⟨e, a1, h2, a4, a5, a6⟩
  · refine Or.inl ⟨L, a1, a2, a3, h2, a4, a5, ?_, ?_, ?_⟩
    · exact (a6.1 5 (by decide) 1).trans ((fq.1 5 (by decide) 1).trans b1)
    · exact (a6.1 5 (by decide) 2).trans ((fq.1 5 (by decide) 2).trans b2)
    · exact po_fw_trans (po_fw_mono f1 (fun z hz => po_sqe_56 hz)) (po_fw_trans (po_fw_of (po_sq_e (po_sqn fq))) (po_fw_of (po_sq_e a6)))
  · exact Or.inr ⟨e, a1, h2, a4, a5, po_fw_trans (po_fw_mono f1 (fun z hz => po_sqe_56 hz)) (po_fw_trans (po_fw_of (po_sq_e (po_sqn fq))) (po_fw_of a6))⟩
end PRA

section PRB
/-! scripts: the reference parses -/
variable {T : sp_T} {h : mm_H} {t : sp_K} {C : sp_C} {A : sp_A}
def sm_Q (L : List sp_Q) (h : mm_H) : Prop := ∀ i q, L[i]? = some q → mh_I h 357 (5 * i) = nI q.1 ∧ ∀ j a, q.2[j]? = some a → mh_I h 357 (5 * i + 1 + j) = nI a
def po_mq (z : Nat) : Bool := z == 352 || z == 357
/-- where a script's parse goes -/
def tm_qx (e : Bool) (h h' : mm_H) : Prop := po_fr po_mq h h' ∧ ∀ k, (k < 5 ∨ (6 < k ∧ k < 10) ∨ 13 < k ∨ (e = false ∧ k < 10)) → mh_I h' 352 k = mh_I h 352 k
theorem tm_qx_trans {e : Bool} {a b c : mm_H} (h1 : tm_qx e a b) (h2 : tm_qx e b c) : tm_qx e a c := ⟨po_fr_trans h1.1 h2.1, fun k hk => (h2.2 k hk).trans (h1.2 k hk)⟩
theorem tm_qx_refl {e : Bool} (h : mm_H) : tm_qx e h h := ⟨po_fr_refl h, fun _ _ => rfl⟩
theorem tm_qx_t {e : Bool} {a b : mm_H} (h : tm_fr a b) : tm_qx e a b := ⟨po_fr_mono h.1 (fun z hz => (Bool.or_eq_false_iff.mp hz).1), fun k hk => h.2 k (by rcases hk with h | h | h | h <;> omega)⟩
theorem tm_qx_e {a b : mm_H} (h : tm_ef a b) : tm_qx true a b := ⟨po_fr_mono h.1 (fun z hz => (Bool.or_eq_false_iff.mp hz).1), fun k hk => h.2 k (by rcases hk with h | h | h | h <;> first | omega | exact absurd h.1 (by decide))⟩
theorem tm_qx_w {a b : mm_H} (h : tm_qx false a b) : tm_qx true a b := ⟨h.1, fun k hk => h.2 k (by rcases hk with h | h | h | h <;> first | omega | exact absurd h.1 (by decide))⟩
theorem tm_qx_I {e : Bool} {k : Nat} {v : Int32} : tm_qx e h (ms_I h 357 k v) := ⟨po_fr_I (by decide), fun j _ => po_I3 (by decide)⟩
theorem sm_Q_t {L : List sp_Q} {h' : mm_H} (H : sm_Q L h) (hf : tm_fr h h') : sm_Q L h' := fun i q hq => ⟨(hf.1.1 357 (by decide) _).trans (H i q hq).1, fun j a ha => (hf.1.1 357 (by decide) _).trans ((H i q hq).2 j a ha)⟩
theorem tm_st_I {k : Nat} {v : Int32} (H : tm_st T t h) : tm_st T t (ms_I h 357 k v) := tm_st_fr H (fun k => po_I3 (by decide)) (fun k _ => po_I3 (by decide))
theorem sm_C_I {k : Nat} {v : Int32} (ok : sp_cok C) (H : sm_C C 0 h) : sm_C C 0 (ms_I h 357 k v) := sm_C_blk ok H (fun j _ => po_I3 (by decide))
theorem sp_ix_lt {α : Type} {l : List α} {j : Nat} {a : α} (h : l[j]? = some a) : j < l.length := by
  rcases Nat.lt_or_ge j l.length with h1 | h1
  · exact h1
  · rw [List.getElem?_eq_none h1] at h
    cases h
theorem tm_putCmd {P : List sp_Q} {c : Nat} (H : sm_Q P h) (hq : ∀ q, q ∈ P → q.2.length ≤ 4) : sm_Q (P ++ [(c, [])]) (ms_I h 357 (5 * P.length) (nI c)) := by
  intro i q hi
  rcases sq_at hi with ⟨h1, h2⟩ | ⟨h1, h2⟩
  · obtain ⟨g1, g2⟩ := H i q h2
    refine ⟨(po_I4 (by omega)).trans g1, fun j a ha => ?_⟩
    have h4 := hq q (List.mem_of_getElem? h2)
    have hj := sp_ix_lt ha
    rw [po_I4 (by omega)]
    exact g2 j a ha
  · subst h1
    subst h2
    exact ⟨po_I1, fun j a ha => (by cases ha)⟩
theorem tm_putArg {P : List sp_Q} {c v : Nat} {l : List Nat} (H : sm_Q (P ++ [(c, l)]) h) (hl : l.length < 4) (hq : ∀ q, q ∈ P → q.2.length ≤ 4) : sm_Q (P ++ [(c, l ++ [v])]) (ms_I h 357 (5 * P.length + 1 + l.length) (nI v)) := by
  intro i q hi
  rcases sq_at hi with ⟨h1, h2⟩ | ⟨h1, h2⟩
  · obtain ⟨g1, g2⟩ := H i q (by rw [List.getElem?_append_left h1]; exact h2)
    refine ⟨(po_I4 (by omega)).trans g1, fun j a ha => ?_⟩
    have h4 := hq q (List.mem_of_getElem? h2)
    have hj := sp_ix_lt ha
    rw [po_I4 (by omega)]
    exact g2 j a ha
  · subst h1
    subst h2
    obtain ⟨g1, g2⟩ := H P.length (c, l) (by rw [List.getElem?_append_right (Nat.le_refl _), Nat.sub_self]; rfl)
    refine ⟨(po_I4 (by omega)).trans g1, fun j a ha => ?_⟩
    have ha2 : (l ++ [v])[j]? = some a := ha
    rcases Nat.lt_or_ge j l.length with h4 | h4
    · rw [List.getElem?_append_left h4] at ha2
      rw [po_I4 (by omega)]
      exact g2 j a ha2
    · have h5 := sp_ix_lt ha2
      rw [List.length_append] at h5
      have h6 : j = l.length := by
        have : j < l.length + 1 := h5
        omega
      subst h6
      rw [List.getElem?_append_right h4, Nat.sub_self] at ha2
      rw [po_I1]
      exact congrArg nI (Option.some.inj ha2)
theorem tm_word_of (c : Nat) (hc : c < 9) : gX11_nameOf (nI c) h = some (34 + c) := by
  have h9 : ∀ c, c < 9 → (if nI c = 0 then some 34 else if nI c = 1 then some 35 else if nI c = 2 then some 36 else if nI c = 3 then some 37 else if nI c = 4 then some 38 else if nI c = 5 then some 39 else if nI c = 6 then some 40 else if nI c = 7 then some 41 else some 42) = some (34 + c) := by decide +kernel
  exact h9 c hc
theorem sp_isw_two (c : Nat) (hc : c < 9) : sp_isw T t (34 + c) = sp_isw T t (16 + c) := by
  have h9 : ∀ c, c < 9 → mm_sn (34 + c) = mm_sn (16 + c) ∧ mm_sbyt.getD (34 + c) [] = mm_sbyt.getD (16 + c) [] := by decide +kernel
  exact sp_isw_eq (h9 c hc).1 (h9 c hc).2
theorem tm_cmdHere (H : tm_st T t h) : gX11_commandHere h = some (sp_fi (sp_ch T t)) := by
  have key : ∀ m i, i ≤ 9 → 9 - i < m → gX11_commandHere_L2 h m (nI i) = some (sp_fi (sp_find (fun c => sp_isw T t (16 + c)) (9 - i) i)) := by
    intro m
    induction m with
    | zero => intro i _ h9; omega
    | succ m ih =>
      intro i hi hm
      rw [gX11_commandHere_L2]
      by_cases hlt : i < 9
      · rw [if_neg (show ¬ 8 < nI i from nI_nlt (a := 8) (by omega) (by decide)), tm_word_of i hlt, Option.bind_some, if_pos (by omega), tm_isw H, Option.bind_some, sp_isw_two i hlt, show 9 - i = (9 - (i + 1)) + 1 by omega]
        show _ = some (sp_fi (if sp_isw T t (16 + i) = true then some i else sp_find (fun c => sp_isw T t (16 + c)) (9 - (i + 1)) (i + 1)))
        by_cases hq : sp_isw T t (16 + i) = true
        · rw [if_pos hq, if_pos hq]
          rfl
        · rw [if_neg hq, if_neg hq, nI_1, Option.bind_some]
          exact ih (i + 1) (by omega) (by omega)
      · rw [if_pos (show 8 < nI i from nI_lt (a := 8) (by omega) (by omega)), show 9 - i = 0 by omega]
        rfl
  exact key mm_F 0 (Nat.zero_le _) (by decide)
theorem tm_nums {P : List sp_Q} {c b N : Nat} (hP : P.length < 30) (hq : ∀ q, q ∈ P → q.2.length ≤ 4) : ∀ m n i l t h, tm_st T t h → sm_Q (P ++ [(c, l)]) h → l.length + m ≤ 4 → i + m = N → N ≤ 3 → b + i = 5 * P.length + 1 + l.length → m < n →
    (∃ l2 t2, sp_nums T m t = .inr (l2, t2) ∧ ∃ h', gX11_parseNumbers_L2 (nI b) (nI N) n (nI i) h = some (true, h') ∧ tm_st T t2 h' ∧ sm_Q (P ++ [(c, l ++ l2)]) h' ∧ tm_qx false h h') ∨
    (∃ e, sp_nums T m t = .inl e ∧ ∃ h', gX11_parseNumbers_L2 (nI b) (nI N) n (nI i) h = some (false, h') ∧ tm_err e h' ∧ tm_qx true h h') := by
  intro m
  induction m with
  | zero =>
    intro n i l t h H HQ hl hi hN hb hn
    obtain ⟨n, rfl⟩ : ∃ k, n = k + 1 := ⟨n - 1, by omega⟩
    rw [gX11_parseNumbers_L2, if_neg (nI_nlt (by omega) (by omega))]
    exact Or.inl ⟨[], t, rfl, h, rfl, H, by rw [List.append_nil]; exact HQ, tm_qx_refl h⟩
  | succ m ih =>
    intro n i l t h H HQ hl hi hN hb hn
    obtain ⟨n, rfl⟩ : ∃ k, n = k + 1 := ⟨n - 1, by omega⟩
    have es : sp_nums T (m + 1) t = if sk_k t = 2 then (match sp_nums T m (sp_nx T t) with | .inl e => .inl e | .inr y => .inr (sk_v t :: y.1, y.2)) else .inl (1, sk_s t) := rfl
    rw [gX11_parseNumbers_L2, if_pos (nI_lt (by omega) (by omega)), es]
    by_cases hk : sk_k t = 2
    · have HQ1 := tm_putArg (v := sk_v t) HQ (by omega) hq
      obtain ⟨h1, e1, H1, f1⟩ := tm_next (tm_st_I (k := 5 * P.length + 1 + l.length) (v := nI (sk_v t)) H)
      have HQ2 := sm_Q_t HQ1 f1
      rw [if_pos (show mh_I h 352 11 = 2 from (tm_k (n := 2) H (by decide)).mpr hk), nI_add, hb, if_pos (po_ibd (by omega) (by decide)), nI_clamp (by omega), H.1.2.2.2.2 hk, Option.bind_some, e1, Option.bind_some, nI_1, Option.bind_some, if_pos hk]
      rcases ih n (i + 1) (l ++ [sk_v t]) (sp_nx T t) h1 H1 HQ2 (by rw [List.length_append]; show l.length + 1 + m ≤ 4; omega) (by omega) hN (by rw [List.length_append]; show b + (i + 1) = 5 * P.length + 1 + (l.length + 1); omega) (by omega) with ⟨l2, t2, s1, h2, d1, d2, d3, d4⟩ | ⟨e, s1, h2, d1, d2, d3⟩
      · rw [s1]
        refine Or.inl ⟨sk_v t :: l2, t2, rfl, h2, d1, d2, ?_, tm_qx_trans (tm_qx_trans tm_qx_I (tm_qx_t f1)) d4⟩
        rw [List.append_assoc] at d3
        exact d3
      · rw [s1]
        exact Or.inr ⟨e, rfl, h2, d1, d2, tm_qx_trans (tm_qx_trans tm_qx_I (tm_qx_t f1)) d3⟩
    · obtain ⟨h1, e1, E1, f1⟩ := tm_wrong (c := 1) (x := 1) H rfl
      rw [if_neg (show ¬ mh_I h 352 11 = 2 from fun z => hk ((tm_k (n := 2) H (by decide)).mp z)), e1, Option.bind_some, if_neg hk]
      exact Or.inr ⟨_, rfl, h1, rfl, E1, tm_qx_e f1⟩
theorem po_nine {β : Type} {c : Nat} (hc : c < 9) {f0 f1 f2 f3 f4 f5 f6 f7 f8 : β} : (if nI c = 0 then f0 else if nI c = 1 then f1 else if nI c = 2 then f2 else if nI c = 3 then f3 else if nI c = 4 then f4 else if nI c = 5 then f5 else if nI c = 6 then f6 else if nI c = 7 then f7 else f8) = [f0, f1, f2, f3, f4, f5, f6, f7].getD c f8 := by
  have hs : c = 0 ∨ c = 1 ∨ c = 2 ∨ c = 3 ∨ c = 4 ∨ c = 5 ∨ c = 6 ∨ c = 7 ∨ c = 8 := by omega
  rcases hs with rfl | rfl | rfl | rfl | rfl | rfl | rfl | rfl | rfl <;> rfl
theorem po_eta {γ δ : Type} {f : Option (γ × δ)} : f.bind (fun x => some (x.1, x.2)) = f := by
  cases f <;> rfl
theorem tm_args {P : List sp_Q} {c : Nat} (hc : c < 9) (H : tm_st T t h) (hC : sm_C C 0 h) (ok : sp_cok C) (HQ : sm_Q (P ++ [(c, [])]) h) (hP : P.length < 30) (hq : ∀ q, q ∈ P → q.2.length ≤ 4) :
    (∃ l t2, sp_args T C c t = (if sk_k t2 = 3 then .inr (l, sp_nx T t2) else .inl (1, sk_s t2)) ∧ ∃ h', gX11_parseArguments (nI c) (nI (5 * P.length + 1)) h = some (true, h') ∧ tm_st T t2 h' ∧ sm_Q (P ++ [(c, l)]) h' ∧ tm_qx false h h') ∨
    (∃ e, sp_args T C c t = .inl e ∧ ∃ h', gX11_parseArguments (nI c) (nI (5 * P.length + 1)) h = some (false, h') ∧ tm_err e h' ∧ tm_qx true h h') := by
  unfold gX11_parseArguments
  generalize ej : mm_jn _ _ = X
  obtain ⟨k1, g1, ej⟩ := po_jx ej
  rw [ej]
  clear ej
  have tail : ∀ l t1 h3, tm_st T t1 h3 → sm_Q (P ++ [(c, l)]) h3 → l.length = (if c ≤ 2 then 1 else 0) → sp_cname T C c t = .inr (l, t1) → tm_qx false h h3 →
      (∃ l' t2, sp_args T C c t = (if sk_k t2 = 3 then .inr (l', sp_nx T t2) else .inl (1, sk_s t2)) ∧ ∃ h', k1 h3 = some (true, h') ∧ tm_st T t2 h' ∧ sm_Q (P ++ [(c, l')]) h' ∧ tm_qx false h h') ∨
      (∃ e, sp_args T C c t = .inl e ∧ ∃ h', k1 h3 = some (false, h') ∧ tm_err e h' ∧ tm_qx true h h') := by
    intro l t1 h3 H3 HQ3 hl hcn f3
    have ea : sp_args T C c t = (match sp_nums T (sp_nn c) t1 with | .inl e => .inl e | .inr z => if sk_k z.2 = 3 then .inr (l ++ z.1, sp_nx T z.2) else .inl (1, sk_s z.2)) := by
      unfold sp_args
      rw [hcn]
      rfl
    have hn3 := sp_nn_le c
    have ek : k1 h3 = gX11_parseNumbers (nI (5 * P.length + 1 + l.length)) (nI (sp_nn c)) h3 := by
      have e7 : gX11_parseNumbers (nI (5 * P.length + 1 + 0)) (nI 0) h3 = some (true, h3) := by
        unfold gX11_parseNumbers
        obtain ⟨k, hk⟩ : ∃ k, mm_F = k + 1 := ⟨99999, rfl⟩
        rw [hk, gX11_parseNumbers_L2, if_neg (show ¬ (0 : Int32) < nI 0 by decide)]
      rw [g1]
      dsimp only
      rw [po_eta, po_eta, po_eta, po_eta, po_eta, nI_1, po_nine hc, hl]
      have hs : c = 0 ∨ c = 1 ∨ c = 2 ∨ c = 3 ∨ c = 4 ∨ c = 5 ∨ c = 6 ∨ c = 7 ∨ c = 8 := by omega
      rcases hs with rfl | rfl | rfl | rfl | rfl | rfl | rfl | rfl | rfl
      · exact congrArg (fun b => gX11_parseNumbers (nI (5 * P.length + 1 + 1)) b h3) (show (3 : Int32) = nI 3 from rfl)
      · exact congrArg (fun b => gX11_parseNumbers (nI (5 * P.length + 1 + 1)) b h3) (show (1 : Int32) = nI 1 from rfl)
      · exact congrArg (fun b => gX11_parseNumbers (nI (5 * P.length + 1 + 1)) b h3) (show (2 : Int32) = nI 2 from rfl)
      · exact congrArg (fun b => gX11_parseNumbers (nI (5 * P.length + 1)) b h3) (show (1 : Int32) = nI 1 from rfl)
      · exact congrArg (fun b => gX11_parseNumbers (nI (5 * P.length + 1)) b h3) (show (1 : Int32) = nI 1 from rfl)
      · exact congrArg (fun b => gX11_parseNumbers (nI (5 * P.length + 1)) b h3) (show (1 : Int32) = nI 1 from rfl)
      · exact congrArg (fun b => gX11_parseNumbers (nI (5 * P.length + 1)) b h3) (show (2 : Int32) = nI 2 from rfl)
      · exact e7.symm
      · exact congrArg (fun b => gX11_parseNumbers (nI (5 * P.length + 1)) b h3) (show (1 : Int32) = nI 1 from rfl)
    rw [ek]
    unfold gX11_parseNumbers
    have hl4 : l.length ≤ 1 := by
      rw [hl]
      by_cases h2c : c ≤ 2
      · rw [if_pos h2c]
        exact Nat.le_refl _
      · rw [if_neg h2c]
        exact Nat.zero_le _
    rcases tm_nums (c := c) (b := 5 * P.length + 1 + l.length) (N := sp_nn c) hP hq (sp_nn c) mm_F 0 l t1 h3 H3 HQ3 (by omega) (by omega) hn3 (by omega) (Nat.lt_of_le_of_lt hn3 (by decide)) with ⟨l2, t2, s1, h', d1, d2, d3, d4⟩ | ⟨e, s1, h', d1, d2, d3⟩
    · refine Or.inl ⟨l ++ l2, t2, ?_, h', d1, d2, d3, tm_qx_trans f3 d4⟩
      rw [ea, s1]
    · refine Or.inr ⟨e, ?_, h', d1, d2, tm_qx_trans (tm_qx_w f3) d3⟩
      rw [ea, s1]
  by_cases h2c : c ≤ 2
  · rw [if_neg (show ¬ 2 < nI c from nI_nlt (a := 2) h2c (by decide))]
    rcases tm_short H with ⟨a1, a2, a3⟩ | ⟨c', a1, h2, e2, E2, f2⟩
    · rw [a3, Option.bind_some, if_pos rfl, tm_name H hC ok, Option.bind_some, if_pos (po_ibd (by omega) (by decide)), nI_clamp (by omega), Option.bind_some, if_pos (po_ibd (by omega) (by decide)), po_I1]
      cases hn : sp_nm T C t with
      | none =>
        obtain ⟨h2, e2, E2, f2⟩ := tm_wrong (c := 3) (x := 3) (tm_st_I (k := 5 * P.length + 1) (v := sp_fi none) H) rfl
        rw [if_pos (show sp_fi none = -1 from rfl), e2, Option.bind_some]
        refine Or.inr ⟨(3, sk_s t), ?_, h2, rfl, E2, tm_qx_trans tm_qx_I (tm_qx_e f2)⟩
        unfold sp_args sp_cname sp_knerr
        rw [if_pos h2c, if_pos a1, hn]
        rfl
      | some p =>
        have hp := sp_nm_lt hn
        have h8 := ok.1
        obtain ⟨h2, e2, H2, f2⟩ := tm_next (tm_st_I (k := 5 * P.length + 1) (v := nI p) H)
        rw [if_neg (show ¬ sp_fi (some p) = -1 from po_nm1 (by omega)), show sp_fi (some p) = nI p from rfl, e2, Option.bind_some]
        refine tail [p] _ h2 H2 (sm_Q_t (tm_putArg (v := p) (l := []) HQ (by decide) hq) f2) (by rw [if_pos h2c]; rfl) ?_ (tm_qx_trans tm_qx_I (tm_qx_t f2))
        unfold sp_cname sp_knerr
        rw [if_pos h2c, if_pos a1, hn]
        rfl
    · rw [e2, Option.bind_some, if_neg Bool.false_ne_true]
      refine Or.inr ⟨(c', sk_s t), ?_, h2, rfl, E2, tm_qx_e f2⟩
      have hkn : sp_knerr T C t = some c' := by
        unfold sp_knerr
        by_cases hk : sk_k t = 1
        · rw [if_pos hk] at a1 ⊢
          by_cases h6 : sk_e t - sk_s t ≤ 6
          · rw [if_pos h6] at a1
            cases a1
          · rw [if_neg h6] at a1
            rw [sp_nm_long ok h6, if_neg (by decide)]
            exact a1
        · rw [if_neg hk] at a1 ⊢
          exact a1
      unfold sp_args sp_cname
      rw [if_pos h2c, hkn]
  · rw [if_pos (show 2 < nI c from nI_lt (a := 2) (by omega) (by omega))]
    refine tail [] _ h H HQ (by rw [if_neg h2c]; rfl) ?_ (tm_qx_refl h)
    unfold sp_cname
    rw [if_neg h2c]
theorem tm_scr (ok : sp_cok C) : ∀ m n P t h, tm_st T t h → sm_C C 0 h → sm_Q P h → P.length ≤ 30 → (∀ q, q ∈ P → sp_qv C q) → m + P.length = 31 → m < n →
    (∃ L, sp_scr T C m P.length t = .inr L ∧ ∃ h', gX11_parseScript_L2 n (nI P.length) h = some (nI (P ++ L).length, h') ∧ sm_Q (P ++ L) h' ∧ tm_qx false h h') ∨
    (∃ e, sp_scr T C m P.length t = .inl e ∧ ∃ h', gX11_parseScript_L2 n (nI P.length) h = some (-1, h') ∧ tm_err e h' ∧ tm_qx true h h') := by
  intro m
  induction m with
  | zero => intro n P t h _ _ _ hP _ h31; omega
  | succ m ih =>
    intro n P t h H hC HQ hP hq h31 hn
    obtain ⟨n, rfl⟩ : ∃ k, n = k + 1 := ⟨n - 1, by omega⟩
    have es : sp_scr T C (m + 1) P.length t = if sk_k t = 0 then .inr [] else match sp_ch T t with | none => .inl (1, sk_s t) | some c => if P.length < 30 then (match sp_args T C c (sp_nx T t) with | .inl e => .inl e | .inr y => match sp_scr T C m (P.length + 1) y.2 with | .inl e => .inl e | .inr l => .inr ((c, y.1) :: l)) else .inl (4, sk_s t) := rfl
    rw [gX11_parseScript_L2, es]
    by_cases h0 : sk_k t = 0
    · rw [if_pos (show mh_I h 352 11 = 0 from (tm_k (n := 0) H (by decide)).mpr h0), if_pos h0]
      refine Or.inl ⟨[], rfl, h, ?_, ?_, tm_qx_refl h⟩
      · rw [List.append_nil]
      · rw [List.append_nil]
        exact HQ
    · rw [if_neg (show ¬ mh_I h 352 11 = 0 from fun z => h0 ((tm_k (n := 0) H (by decide)).mp z)), if_neg h0, tm_cmdHere H, Option.bind_some]
      generalize ej : mm_jn _ _ = X
      obtain ⟨k1, g1, ej⟩ := po_jx ej
      rw [ej]
      clear ej
      cases hc : sp_ch T t with
      | none =>
        obtain ⟨h', e1, e2, e3⟩ := tm_wrong (c := 1) (x := 1) H rfl
        rw [if_pos (show sp_fi none = -1 from rfl), e1, Option.bind_some, g1]
        dsimp only
        rw [if_pos (show mx_bi false = 0 from rfl)]
        exact Or.inr ⟨_, rfl, h', rfl, e2, tm_qx_e e3⟩
      | some c =>
        have hc8 := sp_ch_le hc
        rw [if_neg (show ¬ sp_fi (some c) = -1 from po_nm1 (by omega))]
        dsimp only [mm_jn]
        by_cases h30 : P.length < 30
        · rw [if_pos (show nI P.length < 30 from nI_lt h30 (by decide)), g1]
          dsimp only
          obtain ⟨h1, e1, H1, f1⟩ := tm_next H
          have hC1 := sm_C_t ok hC f1
          have HQ1 := sm_Q_t HQ f1
          have hl4 : ∀ q, q ∈ P → q.2.length ≤ 4 := fun q hq' => sp_qv_len (hq q hq')
          rw [if_neg (show ¬ (1 : Int32) = 0 by decide), if_pos h30, hc, e1, Option.bind_some, show nI P.length * 5 = nI (5 * P.length) by rw [show (5 : Int32) = nI 5 from rfl, pk_mul, Nat.mul_comm], if_pos (po_ibd (by omega) (by decide)), nI_clamp (by omega), Option.bind_some, nI_1, show sp_fi (some c) = nI c from rfl]
          rcases tm_args (c := c) (by omega) (tm_st_I (k := 5 * P.length) (v := nI c) H1) (sm_C_I ok hC1) ok (tm_putCmd HQ1 hl4) h30 hl4 with ⟨l, t2, s1, h2, e2, H2, HQ2, f2⟩ | ⟨e, s1, h2, e2, E2, f2⟩
          · have hC2 : sm_C C 0 h2 := sm_C_fr ok (sm_C_I ok hC1) f2.1 (by decide)
            have fA : tm_qx false h h2 := tm_qx_trans (tm_qx_t f1) (tm_qx_trans tm_qx_I f2)
            rw [e2, Option.bind_some, if_pos rfl, s1]
            rcases tm_semi H2 with ⟨k3, h3, e3, H3, f3⟩ | ⟨k3, h3, e3, E3, f3⟩
            · rw [e3, Option.bind_some, if_pos rfl, nI_1, Option.bind_some, if_pos k3]
              dsimp only
              obtain ⟨v1, v2⟩ := sp_args_v hc8 ok (sp_nx_v H.2.2) (s1.trans (if_pos k3))
              have el : (P ++ [(c, l)]).length = P.length + 1 := by rw [List.length_append]; rfl
              have hi := ih n (P ++ [(c, l)]) (sp_nx T t2) h3 H3 (sm_C_t ok hC2 f3) (sm_Q_t HQ2 f3) (by omega) (fun q hq' => by
                rcases List.mem_append.mp hq' with h2 | h2
                · exact hq q h2
                · rw [List.mem_singleton.mp h2]
                  exact v1) (by omega) (by omega)
              rw [el] at hi
              have fB := tm_qx_trans fA (tm_qx_t f3)
              rcases hi with ⟨L, a1, h4, a4, a5, a6⟩ | ⟨e, a1, h4, a4, a5, a6⟩
              · rw [a1]
                rw [List.append_assoc] at a4 a5
                exact Or.inl ⟨(c, l) :: L, rfl, h4, a4, a5, tm_qx_trans fB a6⟩
              · rw [a1]
                exact Or.inr ⟨e, rfl, h4, a4, a5, tm_qx_trans (tm_qx_w fB) a6⟩
            · rw [e3, Option.bind_some, if_neg Bool.false_ne_true, if_neg k3]
              exact Or.inr ⟨_, rfl, h3, rfl, E3, tm_qx_trans (tm_qx_w fA) (tm_qx_e f3)⟩
          · rw [e2, Option.bind_some, if_neg Bool.false_ne_true, s1]
            exact Or.inr ⟨_, rfl, h2, rfl, E2, tm_qx_trans (tm_qx_t f1) (tm_qx_trans tm_qx_I f2)⟩
        · obtain ⟨h', e1, e2, e3⟩ := tm_wrong (c := 4) (x := 4) H rfl
          rw [if_neg (show ¬ nI P.length < 30 from nI_nlt (b := 30) (by omega) (by omega)), e1, Option.bind_some, if_neg Bool.false_ne_true, g1]
          dsimp only
          rw [if_pos rfl, if_neg h30]
          exact Or.inr ⟨_, rfl, h', rfl, e2, tm_qx_e e3⟩
end PRB

section PQZ
/-! scripts: what a text says -/
variable {T : sp_T} {h : mm_H} {t : sp_K} {C : sp_C} {A : sp_A}
abbrev sp_Q : Type := Nat × List Nat
def sp_nn (c : Nat) : Nat := [3, 1, 2, 1, 1, 1, 2, 0, 1].getD c 0
def sp_ch (T : sp_T) (t : sp_K) : Option Nat := sp_find (fun c => sp_isw T t (16 + c)) 9 0
def sp_nums (T : sp_T) : Nat → sp_K → (Nat × Nat) ⊕ (List Nat × sp_K)
  | 0, t => .inr ([], t)
  | m + 1, t => if sk_k t = 2 then (match sp_nums T m (sp_nx T t) with | .inl e => .inl e | .inr y => .inr (sk_v t :: y.1, y.2)) else .inl (1, sk_s t)
/-- the product that a command names, if it names one -/
def sp_cname (T : sp_T) (C : sp_C) (c : Nat) (t : sp_K) : (Nat × Nat) ⊕ (List Nat × sp_K) :=
  if c ≤ 2 then (match sp_knerr T C t with | some e => .inl (e, sk_s t) | none => .inr ([(sp_nm T C t).getD 0], sp_nx T t)) else .inr ([], t)
def sp_args (T : sp_T) (C : sp_C) (c : Nat) (t : sp_K) : (Nat × Nat) ⊕ (List Nat × sp_K) :=
  match sp_cname T C c t with
  | .inl e => .inl e
  | .inr y => match sp_nums T (sp_nn c) y.2 with
    | .inl e => .inl e
    | .inr z => if sk_k z.2 = 3 then .inr (y.1 ++ z.1, sp_nx T z.2) else .inl (1, sk_s z.2)
def sp_scr (T : sp_T) (C : sp_C) : Nat → Nat → sp_K → (Nat × Nat) ⊕ List sp_Q
  | 0, _, _ => .inr []
  | m + 1, i, t => if sk_k t = 0 then .inr [] else
    match sp_ch T t with
    | none => .inl (1, sk_s t)
    | some c => if i < 30 then
        (match sp_args T C c (sp_nx T t) with
        | .inl e => .inl e
        | .inr y => match sp_scr T C m (i + 1) y.2 with
          | .inl e => .inl e
          | .inr l => .inr ((c, y.1) :: l))
      else .inl (4, sk_s t)
/-- a command as it comes out of a text -/
def sp_qv (C : sp_C) (q : sp_Q) : Prop := q.1 ≤ 8 ∧ q.2.length = (if q.1 ≤ 2 then 1 else 0) + sp_nn q.1 ∧ (q.1 ≤ 2 → ∃ p l, q.2 = p :: l ∧ p < sp_np C) ∧ ∀ a, a ∈ q.2 → a ≤ 9999
theorem sp_ch_le {c : Nat} (h : sp_ch T t = some c) : c ≤ 8 := by
  have := (sp_find_lt h).1
  omega
theorem sp_nn_le (c : Nat) : sp_nn c ≤ 3 := by
  have h9 : ∀ c, c < 9 → [3, 1, 2, 1, 1, 1, 2, 0, 1].getD c 0 ≤ 3 := by decide
  rcases Nat.lt_or_ge c 9 with h | h
  · exact h9 c h
  · unfold sp_nn
    rw [List.getD_eq_getElem?_getD, List.getElem?_eq_none (by exact h)]
    decide
theorem sp_nums_v : ∀ {m : Nat} {t : sp_K} {l : List Nat} {t' : sp_K}, sp_tv T t → sp_nums T m t = .inr (l, t') → l.length = m ∧ (∀ a, a ∈ l → a ≤ 9999) ∧ sp_tv T t'
  | 0, t, l, t', ht, h => by
    obtain ⟨rfl, rfl⟩ := Prod.mk.inj (Sum.inr.inj h)
    exact ⟨rfl, fun a ha => (by cases ha), ht⟩
  | m + 1, t, l, t', ht, h => by
    have h' : (if sk_k t = 2 then (match sp_nums T m (sp_nx T t) with | .inl e => .inl e | .inr y => .inr (sk_v t :: y.1, y.2)) else .inl (1, sk_s t) : (Nat × Nat) ⊕ (List Nat × sp_K)) = .inr (l, t') := h
    by_cases hk : sk_k t = 2
    · rw [if_pos hk] at h'
      cases hn : sp_nums T m (sp_nx T t) with
      | inl e =>
        rw [hn] at h'
        cases h'
      | inr y =>
        rw [hn] at h'
        obtain ⟨rfl, rfl⟩ := Prod.mk.inj (Sum.inr.inj h')
        obtain ⟨a1, a2, a3⟩ := sp_nums_v (sp_nx_v ht) (show sp_nums T m (sp_nx T t) = .inr (y.1, y.2) from hn)
        refine ⟨congrArg (· + 1) a1, fun a ha => ?_, a3⟩
        rcases List.mem_cons.mp ha with h1 | h1
        · rw [h1]
          exact ht.2 hk
        · exact a2 a h1
    · rw [if_neg hk] at h'
      cases h'
theorem sp_nm_lt {p : Nat} (h : sp_nm T C t = some p) : p < sp_np C := sp_named_lt h
theorem sp_args_v {c : Nat} {l : List Nat} {t' : sp_K} (hc : c ≤ 8) (ok : sp_cok C) (ht : sp_tv T t) (h : sp_args T C c t = .inr (l, t')) : sp_qv C (c, l) ∧ sp_tv T t' := by
  unfold sp_args at h
  cases hy : sp_cname T C c t with
  | inl e =>
    rw [hy] at h
    cases h
  | inr y =>
    rw [hy] at h
    dsimp only at h
    have h8 := ok.1
    have hy' : (y.1.length = (if c ≤ 2 then 1 else 0) ∧ (c ≤ 2 → ∃ p, y.1 = [p] ∧ p < sp_np C) ∧ ∀ a, a ∈ y.1 → a ≤ 9999) ∧ sp_tv T y.2 := by
      unfold sp_cname at hy
      by_cases h2 : c ≤ 2
      · rw [if_pos h2] at hy
        rw [if_pos h2]
        unfold sp_knerr at hy
        by_cases hk : sk_k t = 1
        · rw [if_pos hk] at hy
          cases hm : sp_nm T C t with
          | none =>
            rw [hm] at hy
            cases hy
          | some p =>
            rw [hm] at hy
            have := Sum.inr.inj hy
            subst this
            have hp := sp_nm_lt hm
            refine ⟨⟨rfl, fun _ => ⟨p, rfl, hp⟩, fun a ha => ?_⟩, sp_nx_v ht⟩
            rw [List.mem_singleton.mp ha]
            show p ≤ 9999
            omega
        · rw [if_neg hk] at hy
          cases hy
      · rw [if_neg h2] at hy
        rw [if_neg h2]
        have := Sum.inr.inj hy
        subst this
        exact ⟨⟨rfl, fun z => absurd z h2, fun a ha => (by cases ha)⟩, ht⟩
    obtain ⟨⟨y1, y2, y3⟩, y4⟩ := hy'
    cases hz : sp_nums T (sp_nn c) y.2 with
    | inl e =>
      rw [hz] at h
      cases h
    | inr z =>
      rw [hz] at h
      dsimp only at h
      obtain ⟨z1, z2, z3⟩ := sp_nums_v y4 (show sp_nums T (sp_nn c) y.2 = .inr (z.1, z.2) from hz)
      by_cases hk : sk_k z.2 = 3
      · rw [if_pos hk] at h
        obtain ⟨rfl, rfl⟩ := Prod.mk.inj (Sum.inr.inj h)
        refine ⟨⟨hc, ?_, fun h2 => ?_, fun a ha => ?_⟩, sp_nx_v z3⟩
        · show (y.1 ++ z.1).length = _
          rw [List.length_append, y1, z1]
        · obtain ⟨p, e, hp⟩ := y2 h2
          exact ⟨p, z.1, by show y.1 ++ z.1 = _; rw [e]; rfl, hp⟩
        · rcases List.mem_append.mp ha with h1 | h1
          · exact y3 a h1
          · exact z2 a h1
      · rw [if_neg hk] at h
        cases h
/-! the class -/
def sc_Q (L : List sp_Q) (h : mm_H) : Prop := mh_I h 9 0 = nI L.length ∧ ∀ i q, L[i]? = some q → mh_I h 11 i = nI q.1 ∧ ∀ j a, q.2[j]? = some a → mh_I h 13 (4 * i + j) = nI a
def po_sq (z : Nat) : Bool := decide (z = 6 ∨ z = 9 ∨ z = 11 ∨ z = 13)
def po_sqe (z : Nat) : Bool := decide (z = 5 ∨ z = 6 ∨ z = 9 ∨ z = 11 ∨ z = 13)
def po_qn (z : Nat) : Bool := decide (z = 9 ∨ z = 11 ∨ z = 13)
theorem po_sqn {a b : mm_H} (h : po_fr po_qn a b) : po_fr po_sq a b := po_fr_mono h (fun z hz => by
  have hz' : ¬ (z = 6 ∨ z = 9 ∨ z = 11 ∨ z = 13) := of_decide_eq_false hz
  exact decide_eq_false (by omega))
theorem po_sq_e {a b : mm_H} (h : po_fr po_sq a b) : po_fr po_sqe a b := po_fr_mono h (fun z hz => by
  have hz' : ¬ (z = 5 ∨ z = 6 ∨ z = 9 ∨ z = 11 ∨ z = 13) := of_decide_eq_false hz
  exact decide_eq_false (by omega))
theorem po_sq6 {a b : mm_H} (h : po_fr po_6 a b) : po_fr po_sq a b := po_fr_mono h (fun z hz => by
  have hz' : ¬ (z = 6 ∨ z = 9 ∨ z = 11 ∨ z = 13) := of_decide_eq_false hz
  show (z == 6) = false
  simp
  omega)
theorem po_sq5 {a b : mm_H} (h : po_fr po_5 a b) : po_fr po_sqe a b := po_fr_mono h (fun z hz => by
  have hz' : ¬ (z = 5 ∨ z = 6 ∨ z = 9 ∨ z = 11 ∨ z = 13) := of_decide_eq_false hz
  show (z == 5) = false
  simp
  omega)
theorem sq_at {P : List sp_Q} {x q : sp_Q} {i : Nat} (h : (P ++ [x])[i]? = some q) : (i < P.length ∧ P[i]? = some q) ∨ (i = P.length ∧ q = x) := by
  rcases Nat.lt_or_ge i P.length with h1 | h1
  · rw [List.getElem?_append_left h1] at h
    exact Or.inl ⟨h1, h⟩
  · rw [List.getElem?_append_right h1] at h
    have h2 : i - P.length = 0 := by
      rcases Nat.eq_zero_or_pos (i - P.length) with h3 | h3
      · exact h3
      · rw [List.getElem?_eq_none (by exact h3)] at h
        cases h
    rw [h2] at h
    exact Or.inr ⟨by omega, (Option.some.inj h).symm⟩
theorem po_c10 : mm_cap 10 = 30 := by decide +kernel
theorem po_c12 : mm_cap 12 = 120 := by decide +kernel
theorem sc_Q_fr {L : List sp_Q} {h' : mm_H} {D : Nat → Bool} (H : sc_Q L h) (hf : po_fr D h h') (h9 : D 9 = false) (h11 : D 11 = false) (h13 : D 13 = false) : sc_Q L h' :=
  ⟨(hf.1 9 h9 0).trans H.1, fun i q hq => ⟨(hf.1 11 h11 i).trans (H.2 i q hq).1, fun j a ha => (hf.1 13 h13 _).trans ((H.2 i q hq).2 j a ha)⟩⟩
theorem tc_addCmd {P : List sp_Q} {c : Nat} (H : sc_Q P h) (hP : P.length < 30) (hq : ∀ q, q ∈ P → q.2.length ≤ 4) : ∃ h', gX5_addCommand (nI c) h = some h' ∧ sc_Q (P ++ [(c, [])]) h' ∧ mh_I h' 9 1 = 0 ∧ po_fr po_qn h h' := by
  unfold gX5_addCommand
  rw [H.1, if_pos (show nI P.length < 30 from nI_lt hP (by decide)), po_put (by rw [po_c10]; exact hP) (by rw [po_c10]; decide), Option.bind_some, po_I3 (by decide), H.1, nI_1, Option.bind_some, Option.bind_some]
  refine ⟨_, rfl, ⟨?_, fun i q hi => ?_⟩, po_I1, po_fr_trans (po_fr_trans (po_fr_I (by decide)) (po_fr_I (by decide))) (po_fr_I (by decide))⟩
  · rw [po_I4 (by decide), po_I1, List.length_append]
    rfl
  · rw [po_I3 (by decide), po_I3 (by decide), show 10 + 1 = 11 from rfl]
    rcases sq_at hi with ⟨h1, h2⟩ | ⟨h1, h2⟩
    · obtain ⟨g1, g2⟩ := H.2 i q h2
      refine ⟨(po_I4 (by omega)).trans g1, fun j a ha => ?_⟩
      rw [po_I3 (by decide), po_I3 (by decide), po_I3 (by decide)]
      exact g2 j a ha
    · subst h1
      subst h2
      exact ⟨po_I1, fun j a ha => by cases ha⟩
theorem tc_addArg {P : List sp_Q} {c v : Nat} {l : List Nat} (H : sc_Q (P ++ [(c, l)]) h) (h1 : mh_I h 9 1 = nI l.length) (hl : l.length < 4) (hP : P.length < 30) (hq : ∀ q, q ∈ P → q.2.length ≤ 4) : ∃ h', gX5_addArgument (nI v) h = some h' ∧ sc_Q (P ++ [(c, l ++ [v])]) h' ∧ mh_I h' 9 1 = nI (l.length + 1) ∧ po_fr po_qn h h' := by
  have e0 : mh_I h 9 0 = nI (P.length + 1) := by
    rw [H.1, List.length_append]
    rfl
  unfold gX5_addArgument
  rw [h1, if_pos (show nI l.length < 4 from nI_lt hl (by decide)), e0, nI_pred, show nI P.length * 4 + nI l.length = nI (4 * P.length + l.length) by rw [show (4 : Int32) = nI 4 from rfl, pk_mul, nI_add, Nat.mul_comm], po_put (by rw [po_c12]; omega) (by rw [po_c12]; decide), Option.bind_some, po_I3 (by decide), h1, nI_1, Option.bind_some]
  refine ⟨_, rfl, ⟨?_, fun i q hi => ?_⟩, po_I1, po_fr_trans (po_fr_I (by decide)) (po_fr_I (by decide))⟩
  · rw [po_I4 (by decide), po_I3 (by decide), e0, List.length_append]
    rfl
  · rw [po_I3 (by decide), po_I3 (by decide)]
    rcases sq_at hi with ⟨h2, h3⟩ | ⟨h2, h3⟩
    · obtain ⟨g1, g2⟩ := H.2 i q (by rw [List.getElem?_append_left h2]; exact h3)
      refine ⟨g1, fun j a ha => ?_⟩
      have hj : j < q.2.length := by
        rcases Nat.lt_or_ge j q.2.length with h4 | h4
        · exact h4
        · rw [List.getElem?_eq_none h4] at ha
          cases ha
      have hq4 := hq q (List.mem_of_getElem? h3)
      rw [po_I3 (by decide), show 12 + 1 = 13 from rfl, po_I4 (by omega)]
      exact g2 j a ha
    · subst h2
      subst h3
      obtain ⟨g1, g2⟩ := H.2 P.length (c, l) (by rw [List.getElem?_append_right (Nat.le_refl _), Nat.sub_self]; rfl)
      refine ⟨g1, fun j a ha => ?_⟩
      rw [po_I3 (by decide), show 12 + 1 = 13 from rfl]
      rcases Nat.lt_or_ge j l.length with h4 | h4
      · have ha' : l[j]? = some a := by
          rw [← List.getElem?_append_left (l₂ := [v]) h4]
          exact ha
        rw [po_I4 (by omega)]
        exact g2 j a ha'
      · have ha2 : (l ++ [v])[j]? = some a := ha
        rw [List.getElem?_append_right h4] at ha2
        have h5 : j - l.length = 0 := by
          rcases Nat.eq_zero_or_pos (j - l.length) with h6 | h6
          · exact h6
          · rw [List.getElem?_eq_none (by exact h6)] at ha2
            cases ha2
        rw [h5] at ha2
        rw [show 4 * P.length + j = 4 * P.length + l.length by omega, po_I1]
        exact congrArg nI (Option.some.inj ha2)
theorem tc_word_of (c : Nat) (hc : c < 9) : gX10_wordOfCommand (nI c) h = some (16 + c) := by
  have h9 : ∀ c, c < 9 → (if nI c = 0 then some 16 else if nI c = 1 then some 17 else if nI c = 2 then some 18 else if nI c = 3 then some 19 else if nI c = 4 then some 20 else if nI c = 5 then some 21 else if nI c = 6 then some 22 else if nI c = 7 then some 23 else some 24) = some (16 + c) := by decide +kernel
  exact h9 c hc
theorem tc_cmdHere (H : tc_at T t h) : gX3_commandHere h = some (sp_fi (sp_ch T t)) := by
  have key : ∀ m i, i ≤ 9 → 9 - i < m → gX3_commandHere_L2 h m (nI i) = some (sp_fi (sp_find (fun c => sp_isw T t (16 + c)) (9 - i) i)) := by
    intro m
    induction m with
    | zero => intro i _ h9; omega
    | succ m ih =>
      intro i hi hm
      rw [gX3_commandHere_L2]
      by_cases hlt : i < 9
      · rw [if_pos (show nI i < 9 from nI_lt hlt (by decide)), tc_word_of i hlt, Option.bind_some, if_pos (by omega), tc_isw H, Option.bind_some, show 9 - i = (9 - (i + 1)) + 1 by omega]
        show _ = some (sp_fi (if sp_isw T t (16 + i) = true then some i else sp_find (fun c => sp_isw T t (16 + c)) (9 - (i + 1)) (i + 1)))
        by_cases hq : sp_isw T t (16 + i) = true
        · rw [if_pos hq, if_pos hq]
          rfl
        · rw [if_neg hq, if_neg hq, nI_1, Option.bind_some]
          exact ih (i + 1) (by omega) (by omega)
      · rw [if_neg (show ¬ nI i < 9 from nI_nlt (b := 9) (by omega) (by omega)), show 9 - i = 0 by omega]
        rfl
  exact key mm_F 0 (Nat.zero_le _) (by decide)
theorem tc_nn (c : Nat) (hc : c < 9) : gX10_numbersIn (nI c) h = some (nI (sp_nn c)) := by
  have h9 : ∀ c, c < 9 → (if nI c = 0 then some 3 else if nI c = 1 then some 1 else if nI c = 2 then some 2 else if nI c = 3 then some 1 else if nI c = 4 then some 1 else if nI c = 5 then some 1 else if nI c = 6 then some 2 else if nI c = 7 then some 0 else some 1) = some (nI (sp_nn c)) := by decide +kernel
  exact h9 c hc
theorem tc_np (c : Nat) (hc : c < 9) : gX10_namesProduct (nI c) h = some (decide (c ≤ 2)) := by
  have h9 : ∀ c, c < 9 → (if nI c = 0 then some true else if nI c = 1 then some true else if nI c = 2 then some true else some false) = some (decide (c ≤ 2)) := by decide +kernel
  exact h9 c hc
/-- the numbers of a command, and its semicolon -/
theorem tc_nums {P : List sp_Q} {c : Nat} (hc : c < 9) (hP : P.length < 30) (hq : ∀ q, q ∈ P → q.2.length ≤ 4) : ∀ m n i l t h, tc_at T t h → sc_Q (P ++ [(c, l)]) h → mh_I h 9 1 = nI l.length → l.length + m ≤ 4 → i + m = sp_nn c → m < n →
    (∃ l2 t2, sp_nums T m t = .inr (l2, t2) ∧ sk_k t2 = 3 ∧ ∃ h', gX3_takeCommand_L59 14 (nI c) n (nI i) h = some (true, h') ∧ tc_at T (sp_nx T t2) h' ∧ sc_Q (P ++ [(c, l ++ l2)]) h' ∧ po_fr po_sq h h') ∨
    (∃ e, (match sp_nums T m t with | .inl e => .inl e | .inr z => if sk_k z.2 = 3 then .inr (l ++ z.1, sp_nx T z.2) else .inl (1, sk_s z.2) : (Nat × Nat) ⊕ (List Nat × sp_K)) = .inl e ∧ ∃ h', gX3_takeCommand_L59 14 (nI c) n (nI i) h = some (false, h') ∧ tc_err e h' ∧ po_fr po_sqe h h') := by
  intro m
  induction m with
  | zero =>
    intro n i l t h H HQ h1 hl hi hn
    obtain ⟨n, rfl⟩ : ∃ k, n = k + 1 := ⟨n - 1, by omega⟩
    have h3 := sp_nn_le c
    rw [gX3_takeCommand_L59, tc_nn c hc, Option.bind_some, if_neg (nI_nlt (by omega) (by omega))]
    rcases tc_semi H with ⟨k1, h', e1, e2, e3⟩ | ⟨k1, h', e1, e2, e3⟩
    · rw [e1, Option.bind_some]
      exact Or.inl ⟨[], t, rfl, k1, h', rfl, e2, by rw [List.append_nil]; exact sc_Q_fr HQ e3 (by decide) (by decide) (by decide), po_sq6 e3⟩
    · rw [e1, Option.bind_some]
      refine Or.inr ⟨(1, sk_s t), ?_, h', rfl, e2, po_sq5 e3⟩
      show (if sk_k t = 3 then (.inr (l ++ [], sp_nx T t) : (Nat × Nat) ⊕ (List Nat × sp_K)) else .inl (1, sk_s t)) = _
      rw [if_neg k1]
  | succ m ih =>
    intro n i l t h H HQ h1 hl hi hn
    obtain ⟨n, rfl⟩ : ∃ k, n = k + 1 := ⟨n - 1, by omega⟩
    have h3 := sp_nn_le c
    have es : sp_nums T (m + 1) t = if sk_k t = 2 then (match sp_nums T m (sp_nx T t) with | .inl e => .inl e | .inr y => .inr (sk_v t :: y.1, y.2)) else .inl (1, sk_s t) := rfl
    rw [gX3_takeCommand_L59, tc_nn c hc, Option.bind_some, if_pos (nI_lt (by omega) (by omega)), es]
    rcases tc_number (lo := 0) (hi := 9999) (x := 0) (y := 9999) H rfl rfl (by decide) (by decide) with ⟨b1, b2, h2, e2, H2, f2⟩ | ⟨c2, b1, h2, e2, E2, f2⟩
    · have hk : sk_k t = 2 := by
        unfold sp_nerr at b1
        by_cases hk : sk_k t = 2
        · exact hk
        · rw [if_neg hk] at b1
          cases b1
      have HQ2 := sc_Q_fr HQ f2 (by decide) (by decide) (by decide)
      obtain ⟨h4, e4, HQ4, k4, f4⟩ := tc_addArg (v := sk_v t) HQ2 ((f2.1 9 (by decide) 1).trans h1) (by omega) hP hq
      have H4 := tc_at_fr H2 f4 (by decide) (by decide) (by decide)
      · rw [if_pos hk, e2, Option.bind_some, if_neg (show ¬ nI (sk_v t) = -1 from po_nm1 (by omega)), e4, Option.bind_some, nI_1, Option.bind_some]
        have f24 := po_fr_trans (po_sq6 f2) (po_sqn f4)
        rcases ih n (i + 1) (l ++ [sk_v t]) (sp_nx T t) h4 H4 HQ4 (by rw [List.length_append]; exact k4) (by rw [List.length_append]; show l.length + 1 + m ≤ 4; omega) (by omega) (by omega) with ⟨l2, t2, s1, s2, h5, d1, d2, d3, d4⟩ | ⟨e, s1, h5, d1, d2, d3⟩
        · rw [s1]
          refine Or.inl ⟨sk_v t :: l2, t2, rfl, s2, h5, d1, d2, ?_, po_fr_trans f24 d4⟩
          rw [List.append_assoc] at d3
          exact d3
        · refine Or.inr ⟨e, ?_, h5, d1, d2, po_fr_trans (po_sq_e f24) d3⟩
          cases hz : sp_nums T m (sp_nx T t) with
          | inl e' =>
            rw [hz] at s1
            exact s1
          | inr z =>
            rw [hz] at s1
            dsimp only at s1 ⊢
            by_cases h3' : sk_k z.2 = 3
            · rw [if_pos h3'] at s1
              cases s1
            · rw [if_neg h3'] at s1 ⊢
              exact s1
    · have hk : ¬ sk_k t = 2 := fun z => by
        have hv := H.2.2.2 z
        unfold sp_nerr at b1
        rw [if_pos z, if_pos ⟨Nat.zero_le _, hv⟩] at b1
        cases b1
      have hc1 : c2 = 1 := by
        unfold sp_nerr at b1
        rw [if_neg hk] at b1
        exact (Option.some.inj b1).symm
      subst hc1
      rw [if_neg hk, e2, Option.bind_some, if_pos rfl]
      exact Or.inr ⟨_, rfl, h2, rfl, E2, po_sq5 f2⟩
end PQZ

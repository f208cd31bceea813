section PQT
/-! what parsers are made of -/
variable {T : sp_T} {h : mm_H} {t : sp_K} {C : sp_C} {A : sp_A}
theorem sp_endk_all {c : Nat → Bool} : ∀ {m i j : Nat}, i ≤ j → j < sp_endk c m i → c j = true
  | 0, i, j, h1, h2 => by
    have h2' : j < i := h2
    omega
  | m + 1, i, j, h1, h2 => by
    have h2' : j < (if c i = true then sp_endk c m (i + 1) else i) := h2
    by_cases hc : c i = true
    · rw [if_pos hc] at h2'
      rcases Nat.lt_or_ge i j with h3 | h3
      · exact sp_endk_all (by omega) h2'
      · rw [show j = i by omega]
        exact hc
    · rw [if_neg hc] at h2'
      omega
theorem sp_dv_lt {s : Nat} : ∀ {n : Nat}, (∀ j, j < n → sp_isD (T.2 (s + j)) = true) → sp_dv T s n + 1 ≤ 10 ^ n
  | 0, _ => Nat.le_refl _
  | n + 1, h => by
    have h1 := sp_dv_lt (n := n) (fun j hj => h j (by omega))
    have h2 := (of_decide_eq_true (h n (by omega))).2
    show sp_dv T s n * 10 + (T.2 (s + n) - 48) + 1 ≤ 10 ^ n * 10
    omega
/-- a token of a text -/
def sp_tv (T : sp_T) (t : sp_K) : Prop := (sk_s t ≤ sk_e t ∧ sk_e t ≤ T.1 ∧ sk_k t ≤ 4) ∧ (sk_k t = 2 → sk_v t ≤ 9999)
theorem sp_tok_v {i : Nat} (hi : i ≤ T.1) : sp_tv T (sp_tok T i) := by
  obtain ⟨h1, h2, h3, h4⟩ := sp_tok_b (T := T) hi
  refine ⟨⟨h2, h3, h4⟩, ?_⟩
  have hb := sp_end_b (T := T) (c := sp_isS) hi
  unfold sp_tok sp_tokA
  generalize sp_end T sp_isS i = s at hb
  by_cases hN : T.1 ≤ s
  · rw [if_pos hN]
    exact fun z => by cases z
  · rw [if_neg hN]
    by_cases hL : sp_isL (T.2 s) = true
    · rw [if_pos hL]
      exact fun _ => Nat.zero_le _
    · rw [if_neg hL]
      by_cases hD : sp_isD (T.2 s) = true
      · rw [if_pos hD]
        intro z
        show sp_dv T s (sp_end T sp_isD s - s) ≤ 9999
        have z' : (if sp_end T sp_isD s - s ≤ 4 then 2 else 4) = 2 := z
        have h5 : sp_end T sp_isD s - s ≤ 4 := by
          by_cases h6 : sp_end T sp_isD s - s ≤ 4
          · exact h6
          · rw [if_neg h6] at z'
            cases z'
        have h7 := sp_dv_lt (T := T) (s := s) (n := sp_end T sp_isD s - s) (fun j hj => by
          have := sp_endk_all (c := fun j => sp_isD (T.2 j)) (m := T.1 - s) (i := s) (j := s + j) (by omega) (by unfold sp_end at hj; omega)
          exact this)
        have h8 : 10 ^ (sp_end T sp_isD s - s) ≤ 10 ^ 4 := Nat.pow_le_pow_right (by decide) h5
        omega
      · rw [if_neg hD]
        exact fun _ => Nat.zero_le _
def sp_nx (T : sp_T) (t : sp_K) : sp_K := sp_tok T (sk_e t)
theorem sp_nx_v (h : sp_tv T t) : sp_tv T (sp_nx T t) := sp_tok_v h.1.2.1
/-! the class -/
def tc_err (e : Nat × Nat) (h : mm_H) : Prop := mh_I h 5 1 = nI e.1 ∧ mh_I h 5 2 = nI e.2
def po_5 (z : Nat) : Bool := z == 5
/-- text and token stand -/
def tc_at (T : sp_T) (t : sp_K) (h : mm_H) : Prop := (sc_T T 1 h ∧ tc_tok t h) ∧ (T.1 ≤ 600 ∧ ∀ j, T.2 j < 256) ∧ sp_tv T t
theorem tc_at_fr {h' : mm_H} {D : Nat → Bool} (H : tc_at T t h) (hf : po_fr D h h') (h1 : D 1 = false) (h2 : D 2 = false) (h6 : D 6 = false) : tc_at T t h' := by
  obtain ⟨⟨a1, a2, a3, a4, a5⟩, b⟩ := H
  refine ⟨⟨sc_T_fr a1 hf h1 h2, (hf.1 6 h6 1).trans a2, (hf.1 6 h6 2).trans a3, (hf.1 6 h6 3).trans a4, fun z => (hf.1 6 h6 4).trans (a5 z)⟩, b⟩
theorem tc_next (H : tc_at T t h) : ∃ h', gX9_readToken h = some h' ∧ tc_at T (sp_nx T t) h' ∧ po_fr po_6 h h' := by
  obtain ⟨⟨a1, a2⟩, ⟨b1, b2⟩, c⟩ := H
  obtain ⟨h', e1, e2, e3⟩ := tc_read a1 b1 b2 a2.2.2.1 c.1.2.1
  exact ⟨h', e1, ⟨⟨tc_T a1 e3, e2⟩, ⟨b1, b2⟩, sp_nx_v c⟩, e3⟩
theorem tc_fail {c : Nat} {x : Int32} (H : tc_at T t h) (hx : x = nI c) : ∃ h', gX3_fail x h = some (false, h') ∧ tc_err (c, sk_s t) h' ∧ po_fr po_5 h h' := by
  unfold gX3_fail
  rw [Option.bind_some, po_I3 (by decide), H.1.2.2.1, Option.bind_some]
  exact ⟨_, rfl, ⟨(po_I4 (by decide)).trans (po_I1.trans hx), po_I1⟩, po_fr_trans (po_fr_I (by decide)) (po_fr_I (by decide))⟩
theorem tc_isw {w : Nat} (H : tc_at T t h) : gX9_isWord w h = some (sp_isw T t w) := tc_isWord H.1.1 H.2.1.1 H.1.2 H.2.2.1.1 H.2.2.1.2.1 H.2.2.1.2.2
theorem tc_k {n : Nat} (H : tc_at T t h) (hn : n < 100) : (mh_I h 6 1 = nI n) ↔ sk_k t = n := by
  have := H.2.2.1.2.2
  rw [H.1.2.1, nI_eq (by omega) (by omega)]
/-- a semicolon -/
theorem tc_semi (H : tc_at T t h) : (sk_k t = 3 ∧ ∃ h', gX3_takeSemicolon h = some (true, h') ∧ tc_at T (sp_nx T t) h' ∧ po_fr po_6 h h') ∨ (¬ sk_k t = 3 ∧ ∃ h', gX3_takeSemicolon h = some (false, h') ∧ tc_err (1, sk_s t) h' ∧ po_fr po_5 h h') := by
  unfold gX3_takeSemicolon
  by_cases hk : sk_k t = 3
  · obtain ⟨h', e1, e2, e3⟩ := tc_next H
    rw [if_pos (show mh_I h 6 1 = 3 from (tc_k (n := 3) H (by decide)).mpr hk), e1, Option.bind_some]
    exact Or.inl ⟨hk, h', rfl, e2, e3⟩
  · obtain ⟨h', e1, e2, e3⟩ := tc_fail (c := 1) (x := 1) H rfl
    rw [if_neg (show ¬ mh_I h 6 1 = 3 from fun z => hk ((tc_k (n := 3) H (by decide)).mp z)), e1, Option.bind_some]
    exact Or.inr ⟨hk, h', rfl, e2, e3⟩
/-- what is wrong with a number, if anything -/
def sp_nerr (t : sp_K) (lo hi : Nat) : Option Nat := if sk_k t = 2 then (if lo ≤ sk_v t ∧ sk_v t ≤ hi then none else some 2) else some 1
theorem tc_number {lo hi : Nat} {x y : Int32} (H : tc_at T t h) (hx : x = nI lo) (hy : y = nI hi) (hhi : hi < 2 ^ 30) (hlo : lo < 2 ^ 30) : (sp_nerr t lo hi = none ∧ sk_v t ≤ hi ∧ ∃ h', gX3_takeNumber x y h = some (nI (sk_v t), h') ∧ tc_at T (sp_nx T t) h' ∧ po_fr po_6 h h') ∨ (∃ c, sp_nerr t lo hi = some c ∧ ∃ h', gX3_takeNumber x y h = some (-1, h') ∧ tc_err (c, sk_s t) h' ∧ po_fr po_5 h h') := by
  unfold gX3_takeNumber sp_nerr
  by_cases hk : sk_k t = 2
  · have hv := H.2.2.2 hk
    rw [if_pos (show mh_I h 6 1 = 2 from (tc_k (n := 2) H (by decide)).mpr hk), if_pos hk, H.1.2.2.2.2 hk, Option.bind_some]
    by_cases hr : lo ≤ sk_v t ∧ sk_v t ≤ hi
    · obtain ⟨h', e1, e2, e3⟩ := tc_next H
      rw [po_outside_in hr.1 hr.2 (by omega) rfl hx hy, Option.bind_some, if_neg Bool.false_ne_true, e1, Option.bind_some, if_pos hr]
      exact Or.inl ⟨rfl, hr.2, h', rfl, e2, e3⟩
    · obtain ⟨h', e1, e2, e3⟩ := tc_fail (c := 2) (x := 2) H rfl
      have hno : po_no (nI (sk_v t)) lo hi := by
        rcases Nat.lt_or_ge (sk_v t) lo with h1 | h1
        · exact Or.inl (nI_lt h1 (by omega))
        · exact Or.inr (nI_lt (by omega) (by omega))
      rw [po_outside_no hno hx hy, Option.bind_some, if_pos rfl, e1, Option.bind_some, if_neg hr]
      exact Or.inr ⟨2, rfl, h', rfl, e2, e3⟩
  · obtain ⟨h', e1, e2, e3⟩ := tc_fail (c := 1) (x := 1) H rfl
    rw [if_neg (show ¬ mh_I h 6 1 = 2 from fun z => hk ((tc_k (n := 2) H (by decide)).mp z)), if_neg hk, e1, Option.bind_some]
    exact Or.inr ⟨1, rfl, h', rfl, e2, e3⟩
def sp_nm (T : sp_T) (C : sp_C) (t : sp_K) : Option Nat := sp_named T C (sk_s t) (sk_e t - sk_s t)
theorem tc_known {o : Nat} (H : tc_at T t h) (hC : sc_C C o h) (ok : sp_cok C) (c1 : mm_cap (o + 1) = 48) (c3 : mm_cap (o + 3) = 8) :
    (sk_k t = 1 ∧ ∃ p, sp_nm T C t = some p ∧ ∃ h', gX3_takeKnownName o h = some (nI p, h') ∧ tc_at T (sp_nx T t) h' ∧ po_fr po_6 h h') ∨
    (∃ c, (if sk_k t = 1 then (if (sp_nm T C t).isSome = true then none else some 3) else some 1) = some c ∧ ∃ h', gX3_takeKnownName o h = some (-1, h') ∧ tc_err (c, sk_s t) h' ∧ po_fr po_5 h h') := by
  unfold gX3_takeKnownName
  by_cases hk : sk_k t = 1
  · unfold gX9_size
    rw [if_pos (show mh_I h 6 1 = 1 from (tc_k (n := 1) H (by decide)).mpr hk), if_pos hk, H.1.2.2.1, H.1.2.2.2.1, pk_sub H.2.2.1.1, Option.bind_some, tc_named H.1.1 H.2.1.1 H.2.1.2 hC ok c1 c3 (by have := H.2.2.1; omega), Option.bind_some]
    show _ ∨ _
    rw [show sp_named T C (sk_s t) (sk_e t - sk_s t) = sp_nm T C t from rfl]
    cases hn : sp_nm T C t with
    | none =>
      obtain ⟨h', e1, e2, e3⟩ := tc_fail (c := 3) (x := 3) H rfl
      rw [if_pos (show sp_fi none = -1 from rfl), e1, Option.bind_some]
      exact Or.inr ⟨3, rfl, h', rfl, e2, e3⟩
    | some p =>
      have hp := sp_named_lt hn
      have h8 := ok.1
      obtain ⟨h', e1, e2, e3⟩ := tc_next H
      rw [if_neg (show ¬ sp_fi (some p) = -1 from po_nm1 (by omega)), e1, Option.bind_some]
      exact Or.inl ⟨hk, p, rfl, h', rfl, e2, e3⟩
  · obtain ⟨h', e1, e2, e3⟩ := tc_fail (c := 1) (x := 1) H rfl
    rw [if_neg (show ¬ mh_I h 6 1 = 1 from fun z => hk ((tc_k (n := 1) H (by decide)).mp z)), if_neg hk, e1, Option.bind_some]
    exact Or.inr ⟨1, rfl, h', rfl, e2, e3⟩
/-! the reference -/
def tm_err (e : Nat × Nat) (h : mm_H) : Prop := mh_I h 352 5 = nI e.1 ∧ mh_I h 352 6 = nI e.2
/-- error fields -/
def tm_ef (h h' : mm_H) : Prop := po_fr po_352 h h' ∧ ∀ k, (k < 5 ∨ 6 < k) → mh_I h' 352 k = mh_I h 352 k
/-- a long word is no name -/
theorem sp_nm_long (ok : sp_cok C) (h6 : ¬ sk_e t - sk_s t ≤ 6) : sp_nm T C t = none := by
  cases hn : sp_nm T C t with
  | none => rfl
  | some p =>
    exfalso
    have hp := sp_named_lt hn
    have h1 := (of_decide_eq_true (sp_find_lt hn).2).1
    have h2 := (ok.2 p hp).1
    omega
end PQT

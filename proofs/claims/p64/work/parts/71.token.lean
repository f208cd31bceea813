section PQQ
/-! tokens: (kind, start, end, value) -/
abbrev sp_K : Type := Nat × Nat × Nat × Nat
def sk_k (t : sp_K) : Nat := t.1
def sk_s (t : sp_K) : Nat := t.2.1
def sk_e (t : sp_K) : Nat := t.2.2.1
def sk_v (t : sp_K) : Nat := t.2.2.2
/-- where a run that begins at i ends -/
def sp_endk (c : Nat → Bool) : Nat → Nat → Nat
  | 0, i => i
  | m + 1, i => if c i = true then sp_endk c m (i + 1) else i
def sp_end (T : sp_T) (c : Nat → Bool) (i : Nat) : Nat := sp_endk (fun j => c (T.2 j)) (T.1 - i) i
def sp_isS (b : Nat) : Bool := b == 32 || b == 10
def sp_isL (b : Nat) : Bool := decide (97 ≤ b ∧ b ≤ 122)
def sp_isD (b : Nat) : Bool := decide (48 ≤ b ∧ b ≤ 57)
/-- the value of n digits from s on -/
def sp_dv (T : sp_T) (s : Nat) : Nat → Nat
  | 0 => 0
  | n + 1 => sp_dv T s n * 10 + (T.2 (s + n) - 48)
def sp_tokA (T : sp_T) (s : Nat) : sp_K :=
  if T.1 ≤ s then (0, s, s, 0)
  else if sp_isL (T.2 s) = true then (if sp_end T sp_isL s - s ≤ 9 then 1 else 4, s, sp_end T sp_isL s, 0)
  else if sp_isD (T.2 s) = true then (if sp_end T sp_isD s - s ≤ 4 then 2 else 4, s, sp_end T sp_isD s, sp_dv T s (sp_end T sp_isD s - s))
  else (if T.2 s = 59 then 3 else 4, s, s + 1, 0)
def sp_tok (T : sp_T) (i : Nat) : sp_K := sp_tokA T (sp_end T sp_isS i)
variable {T : sp_T} {h : mm_H} {c : Nat → Bool} {i j s : Nat}
theorem sp_end_S (h1 : i < T.1) (h2 : c (T.2 i) = true) : sp_end T c i = sp_end T c (i + 1) := by
  unfold sp_end
  rw [show T.1 - i = (T.1 - (i + 1)) + 1 by omega]
  show (if c (T.2 i) = true then _ else _) = _
  rw [if_pos h2]
theorem sp_end_no (h2 : i < T.1 → c (T.2 i) = false) : sp_end T c i = i := by
  unfold sp_end
  rcases Nat.lt_or_ge i T.1 with h1 | h1
  · rw [show T.1 - i = (T.1 - (i + 1)) + 1 by omega]
    show (if c (T.2 i) = true then _ else _) = _
    rw [if_neg (by rw [h2 h1]; decide)]
  · rw [show T.1 - i = 0 by omega]
    rfl
theorem sp_endk_b {c : Nat → Bool} : ∀ {m i : Nat}, i ≤ sp_endk c m i ∧ sp_endk c m i ≤ i + m
  | 0, i => ⟨Nat.le_refl _, Nat.le_refl _⟩
  | m + 1, i => by
    show i ≤ (if c i = true then sp_endk c m (i + 1) else i) ∧ (if c i = true then sp_endk c m (i + 1) else i) ≤ i + (m + 1)
    have := sp_endk_b (c := c) (m := m) (i := i + 1)
    by_cases hc : c i = true
    · rw [if_pos hc]
      omega
    · rw [if_neg hc]
      omega
theorem sp_end_b (hi : i ≤ T.1) : i ≤ sp_end T c i ∧ sp_end T c i ≤ T.1 := by
  have := sp_endk_b (c := fun j => c (T.2 j)) (m := T.1 - i) (i := i)
  unfold sp_end
  omega
theorem sp_tok_b (hi : i ≤ T.1) : i ≤ sk_s (sp_tok T i) ∧ sk_s (sp_tok T i) ≤ sk_e (sp_tok T i) ∧ sk_e (sp_tok T i) ≤ T.1 ∧ sk_k (sp_tok T i) ≤ 4 := by
  have h1 := sp_end_b (T := T) (c := sp_isS) hi
  unfold sp_tok sp_tokA
  generalize sp_end T sp_isS i = s at h1 ⊢
  by_cases hN : T.1 ≤ s
  · rw [if_pos hN]
    exact ⟨h1.1, Nat.le_refl _, h1.2, show (0 : Nat) ≤ 4 by decide⟩
  · rw [if_neg hN]
    have h2 := sp_end_b (T := T) (c := sp_isL) h1.2
    have h3 := sp_end_b (T := T) (c := sp_isD) h1.2
    by_cases hL : sp_isL (T.2 s) = true
    · rw [if_pos hL]
      exact ⟨h1.1, h2.1, h2.2, show (if _ then 1 else 4) ≤ 4 by split <;> decide⟩
    · rw [if_neg hL]
      by_cases hD : sp_isD (T.2 s) = true
      · rw [if_pos hD]
        exact ⟨h1.1, h3.1, h3.2, show (if _ then 2 else 4) ≤ 4 by split <;> decide⟩
      · rw [if_neg hD]
        exact ⟨h1.1, Nat.le_succ s, show s + 1 ≤ T.1 by omega, show (if _ then 3 else 4) ≤ 4 by split <;> decide⟩
/-- tests of bytes -/
theorem po_isS (b : Nat) (hb : b < 256) : gX9_isSpace (nI b) h = some (sp_isS b) := by
  have h9 : ∀ b, b < 256 → (if nI b = 32 then some true else if nI b = 10 then some true else some false) = some (sp_isS b) := by decide +kernel
  exact h9 b hb
theorem po_isL (b : Nat) (hb : b < 256) : gX9_isLetter (nI b) h = some (sp_isL b) := by
  have h9 : ∀ b, b < 256 → (if nI b < 97 then some false else if 122 < nI b then some false else some true) = some (sp_isL b) := by decide +kernel
  exact h9 b hb
theorem po_isD (b : Nat) (hb : b < 256) : gX9_isDigit (nI b) h = some (sp_isD b) := by
  have h9 : ∀ b, b < 256 → (if nI b < 48 then some false else if 57 < nI b then some false else some true) = some (sp_isD b) := by decide +kernel
  exact h9 b hb
/-- the class's token -/
def tc_tok (t : sp_K) (h : mm_H) : Prop := mh_I h 6 1 = nI (sk_k t) ∧ mh_I h 6 2 = nI (sk_s t) ∧ mh_I h 6 3 = nI (sk_e t) ∧ (sk_k t = 2 → mh_I h 6 4 = nI (sk_v t))
def po_6 (z : Nat) : Bool := z == 6
theorem tc_T {h' : mm_H} (H : sc_T T 1 h) (hf : po_fr po_6 h h') : sc_T T 1 h' := sc_T_fr H hf (by decide) (by decide)
theorem tc_byte (H : sc_T T 1 h) (hl : T.1 ≤ 600) (hj : j < T.1) : gX8_byteAt 1 (nI j) h = some (nI (T.2 j)) := pc_byte H po_c1 hj hl (by decide)
theorem tc_byteN (H : sc_T T 1 h) (hl : T.1 ≤ 600) (hj : T.1 ≤ j) (hj2 : j < 2 ^ 31) : gX8_byteAt 1 (nI j) h = some (-1) := by
  unfold gX8_byteAt
  rw [if_neg (nI_pos hj2), H.1, if_neg (nI_nlt hj hj2)]
theorem tc_word (hl : T.1 ≤ 600) (hb : ∀ j, T.2 j < 256) : ∀ n j h, sc_T T 1 h → mh_I h 6 2 = nI s → mh_I h 6 3 = nI j → s ≤ j → j ≤ T.1 → T.1 - j < n →
    ∃ h', gX9_readWord_L0 n h = some h' ∧ mh_I h' 6 1 = nI (if sp_end T sp_isL j - s ≤ 9 then 1 else 4) ∧ mh_I h' 6 2 = nI s ∧ mh_I h' 6 3 = nI (sp_end T sp_isL j) ∧ po_fr po_6 h h' := by
  intro n
  induction n with
  | zero => intro j h _ _ _ _ _ h9; omega
  | succ n ih =>
    intro j h H h2 h3 hs hj hn
    rw [gX9_readWord_L0]
    have stop : sp_end T sp_isL j = j → ∃ h', (gX9_size h).bind (fun (x16 : Int32) => if 9 < x16 then (some (ms_I h 6 1 4)).bind (fun (h19 : mm_H) => some h19) else (some (ms_I h 6 1 1)).bind (fun (h20 : mm_H) => some h20)) = some h' ∧ mh_I h' 6 1 = nI (if sp_end T sp_isL j - s ≤ 9 then 1 else 4) ∧ mh_I h' 6 2 = nI s ∧ mh_I h' 6 3 = nI (sp_end T sp_isL j) ∧ po_fr po_6 h h' := by
      intro he
      rw [he]
      unfold gX9_size
      rw [h2, h3, pk_sub hs, Option.bind_some]
      by_cases h9 : j - s ≤ 9
      · rw [if_neg (show ¬ 9 < nI (j - s) from nI_nlt (a := 9) h9 (by decide)), Option.bind_some, if_pos h9]
        exact ⟨_, rfl, po_I1, (po_I4 (by decide)).trans h2, (po_I4 (by decide)).trans h3, po_fr_I (by decide)⟩
      · rw [if_pos (show 9 < nI (j - s) from nI_lt (a := 9) (by omega) (by omega)), Option.bind_some, if_neg h9]
        exact ⟨_, rfl, po_I1, (po_I4 (by decide)).trans h2, (po_I4 (by decide)).trans h3, po_fr_I (by decide)⟩
    rcases Nat.lt_or_ge j T.1 with hlt | hge
    · cases hc : sp_isL (T.2 j) with
      | true =>
        have H1 : sc_T T 1 (ms_I h 6 3 (nI (j + 1))) := tc_T H (po_fr_I (by decide))
        obtain ⟨h', e1, e2, e3, e4, e5⟩ := ih (j + 1) (ms_I h 6 3 (nI (j + 1))) H1 ((po_I4 (by decide)).trans h2) po_I1 (by omega) (by omega) (by omega)
        rw [← sp_end_S hlt hc] at e2 e4
        refine ⟨h', ?_, e2, e3, e4, po_fr_trans (po_fr_I (by decide)) e5⟩
        refine po_jn (fun k1 g1 => ?_)
        rw [h3, H.1, if_pos (nI_lt hlt (by omega)), tc_byte H hl hlt, Option.bind_some, po_isL _ (hb j), Option.bind_some, hc, if_pos rfl, nI_1, Option.bind_some, e1]
      | false =>
        obtain ⟨h', e1, e2⟩ := stop (sp_end_no (fun _ => hc))
        refine ⟨h', ?_, e2⟩
        refine po_jn (fun k1 g1 => ?_)
        rw [h3, H.1, if_pos (nI_lt hlt (by omega)), tc_byte H hl hlt, Option.bind_some, po_isL _ (hb j), Option.bind_some, hc, if_neg (by decide), g1]
        exact e1
    · obtain ⟨h', e1, e2⟩ := stop (sp_end_no (fun z => by omega))
      refine ⟨h', ?_, e2⟩
      refine po_jn (fun k1 g1 => ?_)
      rw [h3, H.1, if_neg (nI_nlt hge (by omega)), g1]
      exact e1
theorem tc_num (hl : T.1 ≤ 600) (hb : ∀ j, T.2 j < 256) : ∀ n j h, sc_T T 1 h → mh_I h 6 2 = nI s → mh_I h 6 3 = nI j → mh_I h 6 4 = nI (sp_dv T s (j - s)) → s ≤ j → j ≤ T.1 → T.1 - j < n →
    ∃ h', gX9_readNumber_L5 n h = some h' ∧ mh_I h' 6 1 = nI (if sp_end T sp_isD j - s ≤ 4 then 2 else 4) ∧ mh_I h' 6 2 = nI s ∧ mh_I h' 6 3 = nI (sp_end T sp_isD j) ∧ mh_I h' 6 4 = nI (sp_dv T s (sp_end T sp_isD j - s)) ∧ po_fr po_6 h h' := by
  intro n
  induction n with
  | zero => intro j h _ _ _ _ _ _ h9; omega
  | succ n ih =>
    intro j h H h2 h3 h4 hs hj hn
    rw [gX9_readNumber_L5]
    have stop : sp_end T sp_isD j = j → ∃ h', (gX9_size h).bind (fun (x4 : Int32) => if 4 < x4 then (some (ms_I h 6 1 4)).bind (fun (h7 : mm_H) => some h7) else (some (ms_I h 6 1 2)).bind (fun (h8 : mm_H) => some h8)) = some h' ∧ mh_I h' 6 1 = nI (if sp_end T sp_isD j - s ≤ 4 then 2 else 4) ∧ mh_I h' 6 2 = nI s ∧ mh_I h' 6 3 = nI (sp_end T sp_isD j) ∧ mh_I h' 6 4 = nI (sp_dv T s (sp_end T sp_isD j - s)) ∧ po_fr po_6 h h' := by
      intro he
      rw [he]
      unfold gX9_size
      rw [h2, h3, pk_sub hs, Option.bind_some]
      by_cases h9 : j - s ≤ 4
      · rw [if_neg (show ¬ 4 < nI (j - s) from nI_nlt (a := 4) h9 (by decide)), Option.bind_some, if_pos h9]
        exact ⟨_, rfl, po_I1, (po_I4 (by decide)).trans h2, (po_I4 (by decide)).trans h3, (po_I4 (by decide)).trans h4, po_fr_I (by decide)⟩
      · rw [if_pos (show 4 < nI (j - s) from nI_lt (a := 4) (by omega) (by omega)), Option.bind_some, if_neg h9]
        exact ⟨_, rfl, po_I1, (po_I4 (by decide)).trans h2, (po_I4 (by decide)).trans h3, (po_I4 (by decide)).trans h4, po_fr_I (by decide)⟩
    rcases Nat.lt_or_ge j T.1 with hlt | hge
    · cases hc : sp_isD (T.2 j) with
      | true =>
        have hd : 48 ≤ T.2 j := (of_decide_eq_true hc).1
        have ev : nI (sp_dv T s (j - s)) * 10 + nI (T.2 j) - 48 = nI (sp_dv T s (j + 1 - s)) := by
          rw [show j + 1 - s = (j - s) + 1 by omega]
          show _ = nI (sp_dv T s (j - s) * 10 + (T.2 (s + (j - s)) - 48))
          rw [show s + (j - s) = j by omega, show (10 : Int32) = nI 10 from rfl, show (48 : Int32) = nI 48 from rfl, pk_mul, nI_add, pk_sub (by omega)]
          exact congrArg nI (by omega)
        have H1 : sc_T T 1 (ms_I (ms_I h 6 4 (nI (sp_dv T s (j + 1 - s)))) 6 3 (nI (j + 1))) := tc_T H (po_fr_trans (po_fr_I (by decide)) (po_fr_I (by decide)))
        obtain ⟨h', e1, e2, e3, e4, e5, e6⟩ := ih (j + 1) _ H1 ((po_I4 (by decide)).trans ((po_I4 (by decide)).trans h2)) po_I1 ((po_I4 (by decide)).trans po_I1) (by omega) (by omega) (by omega)
        rw [← sp_end_S hlt hc] at e2 e4 e5
        refine ⟨h', ?_, e2, e3, e4, e5, po_fr_trans (po_fr_trans (po_fr_I (by decide)) (po_fr_I (by decide))) e6⟩
        refine po_jn (fun k1 g1 => ?_)
        rw [h3, H.1, if_pos (nI_lt hlt (by omega)), tc_byte H hl hlt, Option.bind_some, po_isD _ (hb j), Option.bind_some, hc, if_pos rfl, Option.bind_some, h4, ev, Option.bind_some, po_I4 (by decide), h3, nI_1, Option.bind_some, e1]
      | false =>
        obtain ⟨h', e1, e2⟩ := stop (sp_end_no (fun _ => hc))
        refine ⟨h', ?_, e2⟩
        refine po_jn (fun k1 g1 => ?_)
        rw [h3, H.1, if_pos (nI_lt hlt (by omega)), tc_byte H hl hlt, Option.bind_some, po_isD _ (hb j), Option.bind_some, hc, if_neg (by decide), g1]
        exact e1
    · obtain ⟨h', e1, e2⟩ := stop (sp_end_no (fun z => by omega))
      refine ⟨h', ?_, e2⟩
      refine po_jn (fun k1 g1 => ?_)
      rw [h3, H.1, if_neg (nI_nlt hge (by omega)), g1]
      exact e1
theorem tc_readL (hl : T.1 ≤ 600) (hb : ∀ j, T.2 j < 256) : ∀ n i h, sc_T T 1 h → mh_I h 6 3 = nI i → i ≤ T.1 → T.1 - i < n →
    ∃ h', gX9_readToken_L0 n h = some h' ∧ tc_tok (sp_tok T i) h' ∧ po_fr po_6 h h' := by
  intro n
  induction n with
  | zero => intro i h _ _ _ h9; omega
  | succ n ih =>
    intro i h H h3 hi hn
    rw [gX9_readToken_L0]
    -- at the first byte of the token
    have stop : sp_end T sp_isS i = i → ∃ h', (some (ms_I h 6 2 ((mh_I h 6 3)))).bind (fun (h30 : mm_H) =>
        (gX8_byteAt 1 ((mh_I h30 6 2)) h30).bind (fun (x31 : Int32) =>
        if x31 = (-1) then
        (some (ms_I h30 6 1 0)).bind (fun (h48 : mm_H) =>
        some h48)
        else
        (gX9_isLetter x31 h30).bind (fun (x34 : Bool) =>
        if x34 = true then
        (gX9_readWord h30).bind (fun (h46 : mm_H) =>
        some h46)
        else
        (gX9_isDigit x31 h30).bind (fun (x37 : Bool) =>
        if x37 = true then
        (gX9_readNumber h30).bind (fun (h44 : mm_H) =>
        some h44)
        else
        (some (ms_I h30 6 3 (((mh_I h30 6 3) + 1)))).bind (fun (h40 : mm_H) =>
        if x31 = 59 then
        (some (ms_I h40 6 1 3)).bind (fun (h43 : mm_H) =>
        some h43)
        else
        (some (ms_I h40 6 1 4)).bind (fun (h42 : mm_H) =>
        some h42)))))) = some h' ∧ tc_tok (sp_tok T i) h' ∧ po_fr po_6 h h' := by
      intro he
      unfold sp_tok
      rw [he]
      unfold sp_tokA
      rw [h3, Option.bind_some, po_I1]
      have H1 : sc_T T 1 (ms_I h 6 2 (nI i)) := tc_T H (po_fr_I (by decide))
      have f1 : po_fr po_6 h (ms_I h 6 2 (nI i)) := po_fr_I (by decide)
      have h31 : mh_I (ms_I h 6 2 (nI i)) 6 3 = nI i := (po_I4 (by decide)).trans h3
      have h21 : mh_I (ms_I h 6 2 (nI i)) 6 2 = nI i := po_I1
      generalize ms_I h 6 2 (nI i) = h1 at H1 f1 h31 h21 ⊢
      by_cases hN : T.1 ≤ i
      · rw [tc_byteN H1 hl hN (by omega), Option.bind_some, if_pos rfl, Option.bind_some, if_pos hN]
        exact ⟨_, rfl, ⟨po_I1, (po_I4 (by decide)).trans h21, (po_I4 (by decide)).trans h31, fun z => by cases z⟩, po_fr_trans f1 (po_fr_I (by decide))⟩
      · have hbi := hb i
        rw [tc_byte H1 hl (by omega), Option.bind_some, if_neg (po_nm1 (by omega)), if_neg hN, po_isL _ hbi, Option.bind_some]
        by_cases hL : sp_isL (T.2 i) = true
        · rw [if_pos hL, if_pos hL]
          obtain ⟨h', e1, e2, e3, e4, e5⟩ := tc_word (s := i) hl hb (mm_F + 1) i h1 H1 h21 h31 (Nat.le_refl _) hi (Nat.lt_of_le_of_lt (Nat.le_trans (Nat.sub_le _ _) hl) (by decide))
          rw [show gX9_readWord h1 = gX9_readWord_L0 (mm_F + 1) h1 from rfl, e1, Option.bind_some]
          refine ⟨h', rfl, ⟨e2, e3, e4, fun z => ?_⟩, po_fr_trans f1 e5⟩
          exfalso
          have z' : (if sp_end T sp_isL i - i ≤ 9 then 1 else 4) = 2 := z
          split at z' <;> cases z'
        · rw [if_neg hL, if_neg hL, po_isD _ hbi, Option.bind_some]
          by_cases hD : sp_isD (T.2 i) = true
          · rw [if_pos hD, if_pos hD]
            unfold gX9_readNumber
            have H2 : sc_T T 1 (ms_I h1 6 4 0) := tc_T H1 (po_fr_I (by decide))
            obtain ⟨h', e1, e2, e3, e4, e5, e6⟩ := tc_num (s := i) hl hb mm_F i (ms_I h1 6 4 0) H2 ((po_I4 (by decide)).trans h21) ((po_I4 (by decide)).trans h31) (po_I1.trans (by rw [Nat.sub_self]; rfl)) (Nat.le_refl _) hi (Nat.lt_of_le_of_lt (Nat.le_trans (Nat.sub_le _ _) hl) (by decide))
            rw [Option.bind_some, e1, Option.bind_some]
            exact ⟨h', rfl, ⟨e2, e3, e4, fun _ => e5⟩, po_fr_trans f1 (po_fr_trans (po_fr_I (by decide)) e6)⟩
          · rw [if_neg hD, if_neg hD, h31, nI_1, Option.bind_some]
            by_cases h59 : T.2 i = 59
            · rw [h59, if_pos (show nI 59 = 59 from rfl), Option.bind_some, if_pos rfl]
              exact ⟨_, rfl, ⟨po_I1, (po_I4 (by decide)).trans ((po_I4 (by decide)).trans h21), (po_I4 (by decide)).trans po_I1, fun z => by cases z⟩, po_fr_trans f1 (po_fr_trans (po_fr_I (by decide)) (po_fr_I (by decide)))⟩
            · rw [if_neg (show ¬ nI (T.2 i) = 59 from fun z => h59 ((nI_eq (b := 59) (by omega) (by decide)).mp z)), Option.bind_some, if_neg h59]
              exact ⟨_, rfl, ⟨po_I1, (po_I4 (by decide)).trans ((po_I4 (by decide)).trans h21), (po_I4 (by decide)).trans po_I1, fun z => by cases z⟩, po_fr_trans f1 (po_fr_trans (po_fr_I (by decide)) (po_fr_I (by decide)))⟩
    rcases Nat.lt_or_ge i T.1 with hlt | hge
    · cases hc : sp_isS (T.2 i) with
      | true =>
        have H1 : sc_T T 1 (ms_I h 6 3 (nI (i + 1))) := tc_T H (po_fr_I (by decide))
        obtain ⟨h', e1, e2, e3⟩ := ih (i + 1) (ms_I h 6 3 (nI (i + 1))) H1 po_I1 (by omega) (by omega)
        unfold sp_tok at e2 ⊢
        rw [← sp_end_S hlt hc] at e2
        refine ⟨h', ?_, e2, po_fr_trans (po_fr_I (by decide)) e3⟩
        refine po_jn (fun k1 g1 => ?_)
        rw [h3, H.1, if_pos (nI_lt hlt (by omega)), tc_byte H hl hlt, Option.bind_some, po_isS _ (hb i), Option.bind_some, hc, if_pos rfl, nI_1, Option.bind_some, e1]
      | false =>
        obtain ⟨h', e1, e2⟩ := stop (sp_end_no (fun _ => hc))
        refine ⟨h', ?_, e2⟩
        refine po_jn (fun k1 g1 => ?_)
        rw [h3, H.1, if_pos (nI_lt hlt (by omega)), tc_byte H hl hlt, Option.bind_some, po_isS _ (hb i), Option.bind_some, hc, if_neg (by decide), g1]
        exact e1
    · obtain ⟨h', e1, e2⟩ := stop (sp_end_no (fun z => by omega))
      refine ⟨h', ?_, e2⟩
      refine po_jn (fun k1 g1 => ?_)
      rw [h3, H.1, if_neg (nI_nlt hge (by omega)), g1]
      exact e1
theorem tc_read (H : sc_T T 1 h) (hl : T.1 ≤ 600) (hb : ∀ j, T.2 j < 256) (h3 : mh_I h 6 3 = nI i) (hi : i ≤ T.1) : ∃ h', gX9_readToken h = some h' ∧ tc_tok (sp_tok T i) h' ∧ po_fr po_6 h h' :=
  tc_readL hl hb (mm_F + 1) i h H h3 hi (Nat.lt_of_le_of_lt (Nat.le_trans (Nat.sub_le _ _) hl) (by decide))
end PQQ

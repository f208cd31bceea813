section PQR
/-! tokens on the reference -/
variable {T : sp_T} {h : mm_H} {c : Nat → Bool} {i j s : Nat}
def tm_tok (t : sp_K) (h : mm_H) : Prop := mh_I h 352 11 = nI (sk_k t) ∧ mh_I h 352 12 = nI (sk_s t) ∧ mh_I h 352 10 = nI (sk_e t) ∧ (sk_k t = 2 → mh_I h 352 13 = nI (sk_v t))
def po_352 (z : Nat) : Bool := z == 352
def tm_fr (h h' : mm_H) : Prop := po_fr po_352 h h' ∧ ∀ k, (k < 10 ∨ 13 < k) → mh_I h' 352 k = mh_I h 352 k
theorem tm_fr_refl (h : mm_H) : tm_fr h h := ⟨po_fr_refl h, fun _ _ => rfl⟩
theorem tm_fr_trans {a b c : mm_H} (h1 : tm_fr a b) (h2 : tm_fr b c) : tm_fr a c := ⟨po_fr_trans h1.1 h2.1, fun k hk => (h2.2 k hk).trans (h1.2 k hk)⟩
theorem tm_fr_I {k : Nat} {v : Int32} (hk : ¬ (k < 10 ∨ 13 < k)) : tm_fr h (ms_I h 352 k v) := ⟨po_fr_I (by decide), fun j hj => po_I4 (by omega)⟩
theorem tm_T {h' : mm_H} (H : sm_T T 4 355 h) (hf : tm_fr h h') : sm_T T 4 355 h' := ⟨(hf.2 4 (by decide)).trans H.1, fun j hj => (hf.1.1 355 (by decide) j).trans (H.2 j hj)⟩
theorem tm_at (H : sm_T T 4 355 h) (hl : T.1 ≤ 600) (hj : j < T.1) : mm_ibd (nI j) 600 = true ∧ mh_I h 355 (nI j).toNatClampNeg = nI (T.2 j) := by
  rw [nI_clamp (by omega)]
  exact ⟨po_ibd (by omega) (by decide), H.2 j hj⟩
theorem tm_word (hl : T.1 ≤ 600) (hb : ∀ j, T.2 j < 256) : ∀ n j h, sm_T T 4 355 h → mh_I h 352 12 = nI s → mh_I h 352 10 = nI j → s ≤ j → j ≤ T.1 → T.1 - j < n →
    ∃ h', gX11_token_L92 n h = some h' ∧ mh_I h' 352 11 = nI (if sp_end T sp_isL j - s ≤ 9 then 1 else 4) ∧ mh_I h' 352 12 = nI s ∧ mh_I h' 352 10 = nI (sp_end T sp_isL j) ∧ tm_fr h h' := by
  intro n
  induction n with
  | zero => intro j h _ _ _ _ _ h9; omega
  | succ n ih =>
    intro j h H h2 h3 hs hj hn
    rw [gX11_token_L92]
    have stop : sp_end T sp_isL j = j → ∃ h', (if 9 < ((mh_I h 352 10) - (mh_I h 352 12)) then (some (ms_I h 352 11 4)).bind (fun (h40 : mm_H) => some h40) else (some (ms_I h 352 11 1)).bind (fun (h39 : mm_H) => some h39)) = some h' ∧ mh_I h' 352 11 = nI (if sp_end T sp_isL j - s ≤ 9 then 1 else 4) ∧ mh_I h' 352 12 = nI s ∧ mh_I h' 352 10 = nI (sp_end T sp_isL j) ∧ tm_fr h h' := by
      intro he
      rw [he, h2, h3, pk_sub hs]
      by_cases h9 : j - s ≤ 9
      · rw [if_neg (show ¬ 9 < nI (j - s) from nI_nlt (a := 9) h9 (by decide)), Option.bind_some, if_pos h9]
        exact ⟨_, rfl, po_I1, (po_I4 (by decide)).trans h2, (po_I4 (by decide)).trans h3, tm_fr_I (by decide)⟩
      · rw [if_pos (show 9 < nI (j - s) from nI_lt (a := 9) (by omega) (by omega)), Option.bind_some, if_neg h9]
        exact ⟨_, rfl, po_I1, (po_I4 (by decide)).trans h2, (po_I4 (by decide)).trans h3, tm_fr_I (by decide)⟩
    rcases Nat.lt_or_ge j T.1 with hlt | hge
    · obtain ⟨b1, b2⟩ := tm_at H hl hlt
      cases hc : sp_isL (T.2 j) with
      | true =>
        have H1 : sm_T T 4 355 (ms_I h 352 10 (nI (j + 1))) := tm_T H (tm_fr_I (by decide))
        obtain ⟨h', e1, e2, e3, e4, e5⟩ := ih (j + 1) (ms_I h 352 10 (nI (j + 1))) H1 ((po_I4 (by decide)).trans h2) po_I1 (by omega) (by omega) (by omega)
        rw [← sp_end_S hlt hc] at e2 e4
        refine ⟨h', ?_, e2, e3, e4, tm_fr_trans (tm_fr_I (by decide)) e5⟩
        refine po_jn (fun k1 g1 => ?_)
        rw [h3, H.1, if_pos (nI_lt hlt (by omega)), if_pos b1, b2, po_misL _ (hb j), Option.bind_some, hc, if_pos rfl, nI_1, Option.bind_some, e1]
      | false =>
        obtain ⟨h', e1, e2⟩ := stop (sp_end_no (fun _ => hc))
        refine ⟨h', ?_, e2⟩
        refine po_jn (fun k1 g1 => ?_)
        rw [h3, H.1, if_pos (nI_lt hlt (by omega)), if_pos b1, b2, po_misL _ (hb j), Option.bind_some, hc, if_neg (by decide), g1]
        exact e1
    · obtain ⟨h', e1, e2⟩ := stop (sp_end_no (fun z => by omega))
      refine ⟨h', ?_, e2⟩
      refine po_jn (fun k1 g1 => ?_)
      rw [h3, H.1, if_neg (nI_nlt hge (by omega)), g1]
      exact e1
theorem tm_num (hl : T.1 ≤ 600) (hb : ∀ j, T.2 j < 256) : ∀ n j h, sm_T T 4 355 h → mh_I h 352 12 = nI s → mh_I h 352 10 = nI j → mh_I h 352 13 = nI (sp_dv T s (min 4 (j - s))) → s ≤ j → j ≤ T.1 → T.1 - j < n →
    ∃ h', gX11_token_L175 n h = some h' ∧ mh_I h' 352 11 = nI (if sp_end T sp_isD j - s ≤ 4 then 2 else 4) ∧ mh_I h' 352 12 = nI s ∧ mh_I h' 352 10 = nI (sp_end T sp_isD j) ∧ mh_I h' 352 13 = nI (sp_dv T s (min 4 (sp_end T sp_isD j - s))) ∧ tm_fr h h' := by
  intro n
  induction n with
  | zero => intro j h _ _ _ _ _ _ h9; omega
  | succ n ih =>
    intro j h H h2 h3 h4 hs hj hn
    rw [gX11_token_L175]
    have stop : sp_end T sp_isD j = j → ∃ h', (if 4 < ((mh_I h 352 10) - (mh_I h 352 12)) then (some (ms_I h 352 11 4)).bind (fun (h24 : mm_H) => some h24) else (some (ms_I h 352 11 2)).bind (fun (h23 : mm_H) => some h23)) = some h' ∧ mh_I h' 352 11 = nI (if sp_end T sp_isD j - s ≤ 4 then 2 else 4) ∧ mh_I h' 352 12 = nI s ∧ mh_I h' 352 10 = nI (sp_end T sp_isD j) ∧ mh_I h' 352 13 = nI (sp_dv T s (min 4 (sp_end T sp_isD j - s))) ∧ tm_fr h h' := by
      intro he
      rw [he, h2, h3, pk_sub hs]
      by_cases h9 : j - s ≤ 4
      · rw [if_neg (show ¬ 4 < nI (j - s) from nI_nlt (a := 4) h9 (by decide)), Option.bind_some, if_pos h9]
        exact ⟨_, rfl, po_I1, (po_I4 (by decide)).trans h2, (po_I4 (by decide)).trans h3, (po_I4 (by decide)).trans h4, tm_fr_I (by decide)⟩
      · rw [if_pos (show 4 < nI (j - s) from nI_lt (a := 4) (by omega) (by omega)), Option.bind_some, if_neg h9]
        exact ⟨_, rfl, po_I1, (po_I4 (by decide)).trans h2, (po_I4 (by decide)).trans h3, (po_I4 (by decide)).trans h4, tm_fr_I (by decide)⟩
    rcases Nat.lt_or_ge j T.1 with hlt | hge
    · obtain ⟨b1, b2⟩ := tm_at H hl hlt
      cases hc : sp_isD (T.2 j) with
      | true =>
        have hd : 48 ≤ T.2 j := (of_decide_eq_true hc).1
        by_cases h5 : j - s < 4
        · have ev : nI (sp_dv T s (min 4 (j - s))) * 10 + nI (T.2 j) - 48 = nI (sp_dv T s (min 4 (j + 1 - s))) := by
            rw [show min 4 (j + 1 - s) = (j - s) + 1 by omega, show min 4 (j - s) = j - s by omega]
            show _ = nI (sp_dv T s (j - s) * 10 + (T.2 (s + (j - s)) - 48))
            rw [show s + (j - s) = j by omega, show (10 : Int32) = nI 10 from rfl, show (48 : Int32) = nI 48 from rfl, pk_mul, nI_add, pk_sub (by omega)]
            exact congrArg nI (by omega)
          have f0 : tm_fr h (ms_I (ms_I h 352 13 (nI (sp_dv T s (min 4 (j + 1 - s))))) 352 10 (nI (j + 1))) := tm_fr_trans (tm_fr_I (by decide)) (tm_fr_I (by decide))
          obtain ⟨h', e1, e2, e3, e4, e5, e6⟩ := ih (j + 1) _ (tm_T H f0) ((po_I4 (by decide)).trans ((po_I4 (by decide)).trans h2)) po_I1 ((po_I4 (by decide)).trans po_I1) (by omega) (by omega) (by omega)
          rw [← sp_end_S hlt hc] at e2 e4 e5
          refine ⟨h', ?_, e2, e3, e4, e5, tm_fr_trans f0 e6⟩
          refine po_jn (fun k1 g1 => ?_)
          rw [h3, H.1, if_pos (nI_lt hlt (by omega)), if_pos b1, b2, po_misD _ (hb j), Option.bind_some, hc, if_pos rfl]
          refine po_jn (fun k2 g2 => ?_)
          rw [h2, pk_sub hs, if_pos (show nI (j - s) < 4 from nI_lt h5 (by decide)), if_pos b1, h4, ev, Option.bind_some, g2]
          dsimp only
          rw [po_I4 (by decide), h3, nI_1, Option.bind_some, e1]
        · have ev : min 4 (j + 1 - s) = min 4 (j - s) := by omega
          have f0 : tm_fr h (ms_I h 352 10 (nI (j + 1))) := tm_fr_I (by decide)
          obtain ⟨h', e1, e2, e3, e4, e5, e6⟩ := ih (j + 1) _ (tm_T H f0) ((po_I4 (by decide)).trans h2) po_I1 ((po_I4 (by decide)).trans (by rw [ev]; exact h4)) (by omega) (by omega) (by omega)
          rw [← sp_end_S hlt hc] at e2 e4 e5
          refine ⟨h', ?_, e2, e3, e4, e5, tm_fr_trans f0 e6⟩
          refine po_jn (fun k1 g1 => ?_)
          rw [h3, H.1, if_pos (nI_lt hlt (by omega)), if_pos b1, b2, po_misD _ (hb j), Option.bind_some, hc, if_pos rfl]
          refine po_jn (fun k2 g2 => ?_)
          rw [h2, pk_sub hs, if_neg (show ¬ nI (j - s) < 4 from nI_nlt (b := 4) (by omega) (by omega)), g2]
          dsimp only
          rw [h3, nI_1, Option.bind_some, e1]
      | false =>
        obtain ⟨h', e1, e2⟩ := stop (sp_end_no (fun _ => hc))
        refine ⟨h', ?_, e2⟩
        refine po_jn (fun k1 g1 => ?_)
        rw [h3, H.1, if_pos (nI_lt hlt (by omega)), if_pos b1, b2, po_misD _ (hb j), Option.bind_some, hc, if_neg (by decide), g1]
        exact e1
    · obtain ⟨h', e1, e2⟩ := stop (sp_end_no (fun z => by omega))
      refine ⟨h', ?_, e2⟩
      refine po_jn (fun k1 g1 => ?_)
      rw [h3, H.1, if_neg (nI_nlt hge (by omega)), g1]
      exact e1
/-- at the first byte of the token -/
theorem tm_tokA (hl : T.1 ≤ 600) (hb : ∀ j, T.2 j < 256) (H : sm_T T 4 355 h) (h3 : mh_I h 352 10 = nI i) (hi : i ≤ T.1) : ∃ h', (some (ms_I h 352 12 ((mh_I h 352 10)))).bind (fun (h54 : mm_H) =>
    if (mh_I h54 352 10) = (mh_I h54 352 4) then
    (some (ms_I h54 352 11 0)).bind (fun (h72 : mm_H) =>
    some h72)
    else
    if mm_ibd ((mh_I h54 352 10)) 600 = true then
    (gX11_isSmall ((mh_I h54 355 (Int32.toNatClampNeg ((mh_I h54 352 10))))) h54).bind (fun (x57 : Bool) =>
    if x57 = true then
    gX11_token_L92 mm_F h54
    else
    if mm_ibd ((mh_I h54 352 10)) 600 = true then
    (gX11_isDigit ((mh_I h54 355 (Int32.toNatClampNeg ((mh_I h54 352 10))))) h54).bind (fun (x61 : Bool) =>
    if x61 = true then
    (some (ms_I h54 352 13 0)).bind (fun (h71 : mm_H) =>
    gX11_token_L175 mm_F h71)
    else
    if mm_ibd ((mh_I h54 352 10)) 600 = true then
    mm_jn (fun (y65 : Int32) =>
    (some (ms_I h54 352 11 y65)).bind (fun (h68 : mm_H) =>
    (some (ms_I h68 352 10 (((mh_I h68 352 10) + 1)))).bind (fun (h69 : mm_H) =>
    some h69))) (fun (j67 : Int32 → Option mm_H) =>
    if (mh_I h54 355 (Int32.toNatClampNeg ((mh_I h54 352 10)))) = 59 then
    j67 3
    else
    j67 4) else none) else none) else none) = some h' ∧ tm_tok (sp_tokA T i) h' ∧ tm_fr h h' := by
  unfold sp_tokA
  rw [h3, Option.bind_some]
  have f1 : tm_fr h (ms_I h 352 12 (nI i)) := tm_fr_I (by decide)
  have H1 := tm_T H f1
  have h31 : mh_I (ms_I h 352 12 (nI i)) 352 10 = nI i := (po_I4 (by decide)).trans h3
  have h21 : mh_I (ms_I h 352 12 (nI i)) 352 12 = nI i := po_I1
  generalize ms_I h 352 12 (nI i) = h1 at H1 f1 h31 h21 ⊢
  rw [h31, H1.1]
  by_cases hN : T.1 ≤ i
  · rw [if_pos (show nI i = nI T.1 by rw [show i = T.1 by omega]), Option.bind_some, if_pos hN]
    exact ⟨_, rfl, ⟨po_I1, (po_I4 (by decide)).trans h21, (po_I4 (by decide)).trans h31, fun z => by cases z⟩, tm_fr_trans f1 (tm_fr_I (by decide))⟩
  · have hbi := hb i
    obtain ⟨b1, b2⟩ := tm_at (j := i) H1 hl (by omega)
    rw [if_neg (show ¬ nI i = nI T.1 from fun z => by have := (nI_eq (by omega) (by omega)).mp z; omega), if_neg hN, if_pos b1, b2, po_misL _ hbi, Option.bind_some]
    by_cases hL : sp_isL (T.2 i) = true
    · rw [if_pos hL, if_pos hL]
      obtain ⟨h', e1, e2, e3, e4, e5⟩ := tm_word (s := i) hl hb mm_F i h1 H1 h21 h31 (Nat.le_refl _) hi (Nat.lt_of_le_of_lt (Nat.le_trans (Nat.sub_le _ _) hl) (by decide))
      refine ⟨h', e1, ⟨e2, e3, e4, fun z => ?_⟩, tm_fr_trans f1 e5⟩
      exfalso
      have z' : (if sp_end T sp_isL i - i ≤ 9 then 1 else 4) = 2 := z
      split at z' <;> cases z'
    · rw [if_neg hL, if_neg hL, if_pos b1, po_misD _ hbi, Option.bind_some]
      by_cases hD : sp_isD (T.2 i) = true
      · rw [if_pos hD, if_pos hD]
        have f2 : tm_fr h1 (ms_I h1 352 13 0) := tm_fr_I (by decide)
        obtain ⟨h', e1, e2, e3, e4, e5, e6⟩ := tm_num (s := i) hl hb mm_F i (ms_I h1 352 13 0) (tm_T H1 f2) ((po_I4 (by decide)).trans h21) ((po_I4 (by decide)).trans h31) (po_I1.trans (by rw [Nat.sub_self]; rfl)) (Nat.le_refl _) hi (Nat.lt_of_le_of_lt (Nat.le_trans (Nat.sub_le _ _) hl) (by decide))
        rw [Option.bind_some, e1]
        refine ⟨h', rfl, ⟨e2, e3, e4, fun z => ?_⟩, tm_fr_trans f1 (tm_fr_trans f2 e6)⟩
        have z' : (if sp_end T sp_isD i - i ≤ 4 then 2 else 4) = 2 := z
        by_cases h4 : sp_end T sp_isD i - i ≤ 4
        · rw [e5]
          show nI (sp_dv T i (min 4 (sp_end T sp_isD i - i))) = nI (sp_dv T i (sp_end T sp_isD i - i))
          rw [Nat.min_eq_right h4]
        · rw [if_neg h4] at z'
          cases z'
      · rw [if_neg hD, if_neg hD, if_pos b1]
        by_cases h59 : T.2 i = 59
        · refine ⟨ms_I (ms_I h1 352 11 3) 352 10 (nI (i + 1)), ?_, ?_, tm_fr_trans f1 (tm_fr_trans (tm_fr_I (by decide)) (tm_fr_I (by decide)))⟩
          · refine po_jn (fun k1 g1 => ?_)
            rw [h59, if_pos (show nI 59 = 59 from rfl), g1]
            dsimp only
            rw [Option.bind_some, po_I4 (by decide), h31, nI_1, Option.bind_some]
          · rw [if_pos h59]
            exact ⟨(po_I4 (by decide)).trans po_I1, (po_I4 (by decide)).trans ((po_I4 (by decide)).trans h21), po_I1, fun z => by cases z⟩
        · refine ⟨ms_I (ms_I h1 352 11 4) 352 10 (nI (i + 1)), ?_, ?_, tm_fr_trans f1 (tm_fr_trans (tm_fr_I (by decide)) (tm_fr_I (by decide)))⟩
          · refine po_jn (fun k1 g1 => ?_)
            rw [if_neg (show ¬ nI (T.2 i) = 59 from fun z => h59 ((nI_eq (b := 59) (by omega) (by decide)).mp z)), g1]
            dsimp only
            rw [Option.bind_some, po_I4 (by decide), h31, nI_1, Option.bind_some]
          · rw [if_neg h59]
            exact ⟨(po_I4 (by decide)).trans po_I1, (po_I4 (by decide)).trans ((po_I4 (by decide)).trans h21), po_I1, fun z => by cases z⟩
theorem tm_readL (hl : T.1 ≤ 600) (hb : ∀ j, T.2 j < 256) : ∀ n i h, sm_T T 4 355 h → mh_I h 352 10 = nI i → i ≤ T.1 → T.1 - i < n →
    ∃ h', gX11_token_L0 n h = some h' ∧ tm_tok (sp_tok T i) h' ∧ tm_fr h h' := by
  intro n
  induction n with
  | zero => intro i h _ _ _ h9; omega
  | succ n ih =>
    intro i h H h3 hi hn
    obtain ⟨ha, a1, a2, a3⟩ := tm_tokA hl hb H h3 hi
    rw [gX11_token_L0]
    rcases Nat.lt_or_ge i T.1 with hlt | hge
    · obtain ⟨b1, b2⟩ := tm_at H hl hlt
      have hbi := hb i
      cases hc : sp_isS (T.2 i) with
      | true =>
        have f0 : tm_fr h (ms_I h 352 10 (nI (i + 1))) := tm_fr_I (by decide)
        obtain ⟨h', e1, e2, e3⟩ := ih (i + 1) (ms_I h 352 10 (nI (i + 1))) (tm_T H f0) po_I1 (by omega) (by omega)
        unfold sp_tok at e2 ⊢
        rw [← sp_end_S hlt hc] at e2
        refine ⟨h', ?_, e2, tm_fr_trans f0 e3⟩
        refine po_jn (fun k1 g1 => ?_)
        rw [h3, H.1, if_pos (nI_lt hlt (by omega)), if_pos b1, b2]
        refine po_jn (fun k2 g2 => ?_)
        have hk : k2 () = some h' := by
          rw [g2]
          dsimp only
          rw [nI_1, Option.bind_some, e1]
        by_cases h32 : T.2 i = 32
        · rw [h32, if_pos (show nI 32 = 32 from rfl), hk]
        · have h10 : T.2 i = 10 := by
            unfold sp_isS at hc
            rw [Bool.or_eq_true_iff] at hc
            rcases hc with z | z
            · exact absurd (eq_of_beq z) h32
            · exact eq_of_beq z
          rw [if_neg (show ¬ nI (T.2 i) = 32 from fun z => h32 ((nI_eq (b := 32) (by omega) (by decide)).mp z)), if_pos b1, h10, if_pos (show nI 10 = 10 from rfl), hk]
      | false =>
        have he : sp_end T sp_isS i = i := sp_end_no (fun _ => hc)
        have h32 : ¬ T.2 i = 32 := fun z => by
          rw [z] at hc
          cases hc
        have h10 : ¬ T.2 i = 10 := fun z => by
          rw [z] at hc
          cases hc
        refine ⟨ha, ?_, by unfold sp_tok; rw [he]; exact a2, a3⟩
        refine po_jn (fun k1 g1 => ?_)
        rw [h3, H.1, if_pos (nI_lt hlt (by omega)), if_pos b1, b2]
        refine po_jn (fun k2 g2 => ?_)
        rw [if_neg (show ¬ nI (T.2 i) = 32 from fun z => h32 ((nI_eq (b := 32) (by omega) (by decide)).mp z)), if_pos b1, if_neg (show ¬ nI (T.2 i) = 10 from fun z => h10 ((nI_eq (b := 10) (by omega) (by decide)).mp z)), g1]
        exact a1
    · have he : sp_end T sp_isS i = i := sp_end_no (fun z => by omega)
      refine ⟨ha, ?_, by unfold sp_tok; rw [he]; exact a2, a3⟩
      refine po_jn (fun k1 g1 => ?_)
      rw [h3, H.1, if_neg (nI_nlt hge (by omega)), g1]
      exact a1
theorem tm_read (H : sm_T T 4 355 h) (hl : T.1 ≤ 600) (hb : ∀ j, T.2 j < 256) (h3 : mh_I h 352 10 = nI i) (hi : i ≤ T.1) : ∃ h', gX11_token h = some h' ∧ tm_tok (sp_tok T i) h' ∧ tm_fr h h' :=
  tm_readL hl hb (mm_F + 1) i h H h3 hi (Nat.lt_of_le_of_lt (Nat.le_trans (Nat.sub_le _ _) hl) (by decide))
end PQR

section PRD
/-! scripts: a command is done on both sides, or on none -/
variable {A : sp_A} {h : mm_H}
def sq_go (A : sp_A) (q : sp_Q) (S' : sp_S) : Prop := (sp_ok S' ∧ sp_dy S' ≤ 9999) ∧
  (∀ h L i, ra_c A h → sc_Q L h → L[i]? = some q → i < 30 → gX10_refusalOfCommand (nI i) h = some 0 ∧ ∃ h', gX10_performCommand (nI i) h = some h' ∧ sc_S S' 21 h' ∧ po_fr po_st h h') ∧
  (∀ h L i, ra_m A h → sm_Q L h → L[i]? = some q → i < 30 → gX11_canDo (nI (5 * i)) h = some true ∧ ∃ h', gX11_doIt (nI (5 * i)) h = some h' ∧ sm_S S' 0 h' ∧ po_fx h h')
def sq_no (A : sp_A) (q : sp_Q) : Prop :=
  (∀ h L i, ra_c A h → sc_Q L h → L[i]? = some q → i < 30 → ∃ t, gX10_refusalOfCommand (nI i) h = some t ∧ ¬ t = 0) ∧
  (∀ h L i, ra_m A h → sm_Q L h → L[i]? = some q → i < 30 → gX11_canDo (nI (5 * i)) h = some false)
theorem po_no_of {q a b : Nat} (h : ¬ (a ≤ q ∧ q ≤ b)) (hq : q < 2 ^ 31) (ha : a < 2 ^ 31) : po_no (nI q) a b := by
  rcases Nat.lt_or_ge q a with h1 | h1
  · exact Or.inl (nI_lt h1 ha)
  · exact Or.inr (nI_lt (by omega) hq)

theorem po_out_of {q n : Nat} (h : ¬ q < n) (hq : q < 2 ^ 31) : po_out (nI q) n := Or.inr (nI_nlt (by omega) hq)
theorem sq_0 (ok : sa_ok A) {p q e u : Nat} (hp : p < sp_np (sa_C A)) (hq : q ≤ 9999) (he : e ≤ 9999) (hu : u ≤ 9999) : (∃ S', sq_go A (0, [p, q, e, u]) S') ∨ sq_no A (0, [p, q, e, u]) := by
  have h8 := ok.1.1.1
  have h20 := ok.1.2.1.2.1
  by_cases hk : (1 ≤ q ∧ q ≤ 999 ∧ 1 ≤ u ∧ u ≤ 999) ∧ sp_nb (sa_S A) < 20
  · obtain ⟨⟨h1, h2, h4, h5⟩, hn⟩ := hk
    refine Or.inl ⟨sp_add (sa_S A) p q e u, ⟨sp_add_ok ok.1.2 hn (by omega) h2 he h5, ok.2.2.2.2.2.2.1⟩, fun h L i H HQ hL hi => ⟨?_, ?_⟩, fun h L i H HQ hL hi => ⟨?_, ?_⟩⟩
    · rw [tr_0 HQ hL hi]
      unfold gX10_refusalOfReceive
      rw [pc_hasP H ok hp, Option.bind_some, if_pos rfl, po_outside_in (y := 1) (z := 999) h1 h2 (by decide) rfl rfl rfl, Option.bind_some, if_neg (by decide), po_outside_in (y := 0) (z := 9999) (Nat.zero_le _) he (by decide) rfl rfl rfl, Option.bind_some, if_neg (by decide), po_outside_in (y := 1) (z := 999) h4 h5 (by decide) rfl rfl rfl, Option.bind_some, if_neg (by decide), H.1.2.1.2.1, if_pos (show nI (sp_nb (sa_S A)) < 20 from nI_lt hn (by decide))]
    · obtain ⟨h', g1, g2, g3⟩ := pc_add po_k21 H.1.2 ok.1.2 (q := q) (e := e) (c := u) hn (show p < 8 by omega)
      rw [tp_0 HQ hL hi, g1, Option.bind_some]
      exact ⟨h', rfl, g2, po_st_in g3⟩
    · rw [tk_0 HQ hL hi, po_data_in h1 h2 he h4 h5 rfl rfl rfl, Option.bind_some, if_pos rfl, if_pos po_m2, pm_nb H.1.2, if_pos (show nI (sp_nb (sa_S A)) < 20 from nI_lt hn (by decide))]
    · obtain ⟨h', g1, g2, g3⟩ := pm_add H.1.2 ok.1.2 (q := q) (e := e) (c := u) hn (show p < 8 by omega)
      rw [td_0 HQ hL hi, g1, Option.bind_some]
      exact ⟨h', rfl, g2, g3⟩
  · refine Or.inr ⟨fun h L i H HQ hL hi => ?_, fun h L i H HQ hL hi => ?_⟩
    · rw [tr_0 HQ hL hi]
      rcases rf_receive (nI p) (nI q) (nI e) (nI u) ok with ⟨p', q', e', c', hp', ⟨h1, h2, h3, h4, h5⟩, hn, e1, e2, e3, e4, _⟩ | ⟨t, E, ht, hr, _⟩
      · exfalso
        have x2 := (nI_eq (by omega) (by omega)).mp e2
        have x4 := (nI_eq (by omega) (by omega)).mp e4
        exact hk ⟨⟨by omega, by omega, by omega, by omega⟩, hn⟩
      · exact ⟨t, hr h H, (lc_3t ht).2⟩
    · rw [tk_0 HQ hL hi]
      by_cases hd : 1 ≤ q ∧ q ≤ 999 ∧ 1 ≤ u ∧ u ≤ 999
      · have hn : ¬ sp_nb (sa_S A) < 20 := fun z => hk ⟨hd, z⟩
        rw [po_data_in hd.1 hd.2.1 he hd.2.2.1 hd.2.2.2 rfl rfl rfl, Option.bind_some, if_pos rfl, if_pos po_m2, pm_nb H.1.2, if_neg (show ¬ nI (sp_nb (sa_S A)) < 20 from nI_nlt (b := 20) (by omega) (by omega))]
      · rw [po_data_no, Option.bind_some, if_neg (by decide)]
        by_cases hq1 : 1 ≤ q ∧ q ≤ 999
        · exact Or.inr (Or.inr (po_no_of (by omega) (by omega) (by decide)))
        · exact Or.inl (po_no_of hq1 (by omega) (by decide))
theorem sq_1 (ok : sa_ok A) {p q : Nat} (hp : p < sp_np (sa_C A)) (hq : q ≤ 9999) : (∃ S', sq_go A (1, [p, q]) S') ∨ sq_no A (1, [p, q]) := by
  have h8 := ok.1.1.1
  have hdy := ok.1.2.1.1
  have hav := sp_av_le ok.1.2 p (sp_dy (sa_S A))
  by_cases hk : 1 ≤ q ∧ q ≤ sp_av (sa_S A) p (sp_dy (sa_S A))
  · obtain ⟨h1, hn⟩ := hk
    refine Or.inl ⟨sp_issue (sa_S A) p q, ⟨sp_issue_ok ok.1.2 p q, ok.2.2.2.2.2.2.1⟩, fun h L i H HQ hL hi => ⟨?_, ?_⟩, fun h L i H HQ hL hi => ⟨?_, ?_⟩⟩
    · rw [tr_1 HQ hL hi]
      unfold gX10_refusalOfIssue
      rw [pc_hasP H ok hp, Option.bind_some, if_pos rfl, po_outside_in (y := 1) (z := 9999) h1 hq (by decide) rfl rfl rfl, Option.bind_some, if_neg (by decide), H.1.2.1.1, pc_avail po_k21 H.1.2 ok.1.2 (by omega) (by omega), Option.bind_some, if_neg (nI_nlt hn (by omega))]
    · obtain ⟨h', g1, g2, g3⟩ := pc_issue po_k21 H.1.2 ok.1.2 (show p < 8 by omega) (show q < 2 ^ 31 by omega)
      rw [tp_1 HQ hL hi, g1, Option.bind_some]
      exact ⟨h', rfl, g2, g3⟩
    · rw [tk_1 HQ hL hi, if_neg (show ¬ nI q < 1 from nI_nlt (b := 1) h1 (by omega)), pm_canIssue H.1.2 ok.1.2 (by omega) (by omega), Option.bind_some, if_pos (decide_eq_true hn)]
    · obtain ⟨h', g1, g2, g3⟩ := pm_issue H.1.2 ok.1.2 (show p < 8 by omega) (show q < 2 ^ 31 by omega) hn
      rw [td_1 HQ hL hi, pm_dy H.1.2, g1, Option.bind_some]
      exact ⟨h', rfl, g2, g3⟩
  · refine Or.inr ⟨fun h L i H HQ hL hi => ?_, fun h L i H HQ hL hi => ?_⟩
    · rw [tr_1 HQ hL hi]
      rcases rf_issue (nI p) (nI q) ok with ⟨p', q', hp', ⟨h1, h2⟩, hn, e1, e2, _⟩ | ⟨t, E, ht, hr, _⟩
      · exfalso
        have x1 := (nI_eq (by omega) (by omega)).mp e1
        have x2 := (nI_eq (by omega) (by omega)).mp e2
        subst x1
        subst x2
        exact hk ⟨h1, hn⟩
      · exact ⟨t, hr h H, (lc_3t ht).2⟩
    · rw [tk_1 HQ hL hi]
      by_cases h1 : 1 ≤ q
      · have hn : ¬ q ≤ sp_av (sa_S A) p (sp_dy (sa_S A)) := fun z => hk ⟨h1, z⟩
        rw [if_neg (show ¬ nI q < 1 from nI_nlt (b := 1) h1 (by omega)), pm_canIssue H.1.2 ok.1.2 (by omega) (by omega), Option.bind_some, if_neg (by rw [decide_eq_false hn]; decide)]
      · rw [if_pos (show nI q < 1 from nI_lt (b := 1) (by omega) (by decide))]
theorem sq_2 (ok : sa_ok A) {p q d : Nat} (hp : p < sp_np (sa_C A)) (hq : q ≤ 9999) (hd : d ≤ 9999) : (∃ S', sq_go A (2, [p, q, d]) S') ∨ sq_no A (2, [p, q, d]) := by
  have h8 := ok.1.1.1
  have hdy := ok.2.2.2.2.2.2.1
  have hr10 := ok.1.2.1.2.2
  have hav := sp_av_le ok.1.2 p d
  by_cases hk : (1 ≤ q ∧ sp_dy (sa_S A) ≤ d) ∧ sp_nr (sa_S A) < 10 ∧ q ≤ sp_av (sa_S A) p d
  · obtain ⟨⟨h1, h3⟩, hn⟩ := hk
    refine Or.inl ⟨sp_resrv (sa_S A) p q d, ⟨sp_resrv_ok ok.1.2 hn.1 (by omega) hq hd, ok.2.2.2.2.2.2.1⟩, fun h L i H HQ hL hi => ⟨?_, ?_⟩, fun h L i H HQ hL hi => ⟨?_, ?_⟩⟩
    · rw [tr_2 HQ hL hi]
      unfold gX10_refusalOfReserve
      dsimp only [mm_jn]
      rw [pc_hasP H ok hp, Option.bind_some, if_pos rfl, po_outside_in (y := 1) (z := 9999) h1 hq (by decide) rfl rfl rfl, Option.bind_some, if_neg (by decide), H.1.2.1.1, po_outside_in (z := 9999) h3 hd (by decide) rfl rfl rfl, Option.bind_some, if_neg (by decide), H.1.2.1.2.2, if_pos (show nI (sp_nr (sa_S A)) < 10 from nI_lt hn.1 (by decide)), pc_avail po_k21 H.1.2 ok.1.2 (by omega) (by omega), Option.bind_some, if_neg (nI_nlt hn.2 (by omega)), if_neg (show ¬ (1 : Int32) = 0 by decide)]
    · obtain ⟨h', g1, g2, g3⟩ := pc_reserve po_k21 H.1.2 ok.1.2 hn.1 (show p < 8 by omega) hq hd
      rw [tp_2 HQ hL hi, g1, Option.bind_some]
      exact ⟨h', rfl, g2, g3⟩
    · rw [tk_2 HQ hL hi, if_neg (show ¬ nI q < 1 from nI_nlt (b := 1) h1 (by omega)), if_pos po_m0, pm_dy H.1.2, if_neg (nI_nlt h3 (by omega)), pm_canRes H ok (by omega) hq hd, Option.bind_some, if_pos (decide_eq_true hn)]
    · obtain ⟨h', g1, g2, g3⟩ := pm_reserve H.1.2 ok.1.2 hn.1 (show p < 8 by omega) hq hd h3
      rw [td_2 HQ hL hi, g1, Option.bind_some]
      exact ⟨h', rfl, g2, g3⟩
  · refine Or.inr ⟨fun h L i H HQ hL hi => ?_, fun h L i H HQ hL hi => ?_⟩
    · rw [tr_2 HQ hL hi]
      rcases rf_reserve (nI p) (nI q) (nI d) ok with ⟨p', q', d', hp', ⟨h1, h2, h3, h4⟩, hn, e1, e2, e3, _⟩ | ⟨t, E, ht, hr, _⟩
      · exfalso
        have x1 := (nI_eq (by omega) (by omega)).mp e1
        have x2 := (nI_eq (by omega) (by omega)).mp e2
        have x3 := (nI_eq (by omega) (by omega)).mp e3
        subst x1
        subst x2
        subst x3
        exact hk ⟨⟨h1, h3⟩, hn⟩
      · exact ⟨t, hr h H, (lc_3t ht).2⟩
    · rw [tk_2 HQ hL hi]
      by_cases h1 : 1 ≤ q
      · rw [if_neg (show ¬ nI q < 1 from nI_nlt (b := 1) h1 (by omega)), if_pos po_m0, pm_dy H.1.2]
        by_cases h3 : sp_dy (sa_S A) ≤ d
        · have hn : ¬ (sp_nr (sa_S A) < 10 ∧ q ≤ sp_av (sa_S A) p d) := fun z => hk ⟨⟨h1, h3⟩, z⟩
          rw [if_neg (nI_nlt h3 (by omega)), pm_canRes H ok (by omega) hq hd, Option.bind_some, if_neg (by rw [decide_eq_false hn]; decide)]
        · rw [if_pos (nI_lt (by omega) (by omega))]
      · rw [if_pos (show nI q < 1 from nI_lt (b := 1) (by omega) (by decide))]
theorem sq_3 (ok : sa_ok A) {r : Nat} (hr : r ≤ 9999) : (∃ S', sq_go A (3, [r]) S') ∨ sq_no A (3, [r]) := by
  have h8 := ok.1.2.1.2.2
  have hw := sp_why_le (sa_S A) r
  by_cases hk : r < sp_nr (sa_S A) ∧ sp_why (sa_S A) r = 0
  · obtain ⟨hp, h0⟩ := hk
    have h3 := sp_why0 h0
    refine Or.inl ⟨sp_ship (sa_S A) r, ⟨sp_ship_ok ok.1.2 hp h3, ok.2.2.2.2.2.2.1⟩, fun h L i H HQ hL hi => ⟨?_, ?_⟩, fun h L i H HQ hL hi => ⟨?_, ?_⟩⟩
    · rw [tr_3 HQ hL hi]
      unfold gX10_refusalOfShip
      rw [pc_hasR H ok hp, Option.bind_some, if_pos rfl, pc_why po_k21 H.1.2 ok.1.2 hp, Option.bind_some, h0, if_pos (show nI 0 = 0 from rfl)]
    · obtain ⟨h', g1, g2, g3⟩ := pc_ship po_k21 H.1.2 ok.1.2 hp h3
      rw [tp_3 HQ hL hi, g1, Option.bind_some]
      exact ⟨h', rfl, g2, po_st_in g3⟩
    · rw [tk_3 HQ hL hi, pm_isR H ok hp, Option.bind_some, if_pos rfl, pm_why H.1.2 ok.1.2 hp, Option.bind_some, h0, if_pos (show nI 0 = 0 from rfl)]
    · obtain ⟨h', g1, g2, g3⟩ := pm_ship H.1.2 ok.1.2 hp h3
      rw [td_3 HQ hL hi, g1, Option.bind_some]
      exact ⟨h', rfl, g2, g3⟩
  · refine Or.inr ⟨fun h L i H HQ hL hi => ?_, fun h L i H HQ hL hi => ?_⟩
    · rw [tr_3 HQ hL hi]
      rcases rf_ship (nI r) ok with ⟨r', hp, h0, e1, _⟩ | ⟨t, u, E, ht, hu, hr, _⟩
      · exfalso
        have x1 := (nI_eq (by omega) (by omega)).mp e1
        subst x1
        exact hk ⟨hp, h0⟩
      · exact ⟨u, hr h H, (lc_3t hu).2⟩
    · rw [tk_3 HQ hL hi]
      by_cases hp : r < sp_nr (sa_S A)
      · have h0 : ¬ sp_why (sa_S A) r = 0 := fun z => hk ⟨hp, z⟩
        rw [pm_isR H ok hp, Option.bind_some, if_pos rfl, pm_why H.1.2 ok.1.2 hp, Option.bind_some, if_neg (nI_ne0 (by omega) (by omega))]
      · rw [pm_isRn H ok (po_out_of hp (by omega)), Option.bind_some, if_neg (by decide)]
theorem sq_4 (ok : sa_ok A) {r : Nat} (hr : r ≤ 9999) : (∃ S', sq_go A (4, [r]) S') ∨ sq_no A (4, [r]) := by
  have h8 := ok.1.2.1.2.2
  by_cases hk : r < sp_nr (sa_S A) ∧ sp_r (sa_S A) r 3 = 0
  · obtain ⟨hp, h3⟩ := hk
    refine Or.inl ⟨sp_close (sa_S A) r 2, ⟨sp_close_ok ok.1.2 hp h3 (by decide) (by decide), ok.2.2.2.2.2.2.1⟩, fun h L i H HQ hL hi => ⟨?_, ?_⟩, fun h L i H HQ hL hi => ⟨?_, ?_⟩⟩
    · rw [tr_4 HQ hL hi]
      unfold gX10_refusalOfOpenOnly
      rw [pc_hasR H ok hp, Option.bind_some, if_pos rfl, pc_pend po_k21 H.1.2 ok.1.2 hp, Option.bind_some, if_pos (decide_eq_true h3)]
    · obtain ⟨h', g1, g2, g3⟩ := pc_cancel po_k21 H.1.2 ok.1.2 hp h3
      rw [tp_4 HQ hL hi, g1, Option.bind_some]
      exact ⟨h', rfl, g2, po_st_in g3⟩
    · rw [tk_4 HQ hL hi, pm_isR H ok hp, Option.bind_some, if_pos rfl, pm_open H.1.2 ok.1.2 hp, Option.bind_some, if_pos (decide_eq_true h3)]
    · obtain ⟨h', g1, g2, g3⟩ := pm_cancel H.1.2 ok.1.2 hp h3
      rw [td_4 HQ hL hi, g1, Option.bind_some]
      exact ⟨h', rfl, g2, g3⟩
  · refine Or.inr ⟨fun h L i H HQ hL hi => ?_, fun h L i H HQ hL hi => ?_⟩
    · rw [tr_4 HQ hL hi]
      rcases rf_open (nI r) ok with ⟨r', hp, h0, e1, _⟩ | ⟨t, u, E, ht, hu, hr, _⟩
      · exfalso
        have x1 := (nI_eq (by omega) (by omega)).mp e1
        subst x1
        exact hk ⟨hp, h0⟩
      · exact ⟨u, hr h H, (lc_3t hu).2⟩
    · rw [tk_4 HQ hL hi]
      by_cases hp : r < sp_nr (sa_S A)
      · have h0 : ¬ sp_r (sa_S A) r 3 = 0 := fun z => hk ⟨hp, z⟩
        rw [pm_isR H ok hp, Option.bind_some, if_pos rfl, pm_open H.1.2 ok.1.2 hp, Option.bind_some, if_neg (by rw [decide_eq_false h0]; decide)]
      · rw [pm_isRn H ok (po_out_of hp (by omega)), Option.bind_some, if_neg (by decide)]
theorem sq_5 (ok : sa_ok A) {r : Nat} (hr : r ≤ 9999) : (∃ S', sq_go A (5, [r]) S') ∨ sq_no A (5, [r]) := by
  have h8 := ok.1.2.1.2.2
  by_cases hk : r < sp_nr (sa_S A) ∧ sp_r (sa_S A) r 3 = 0
  · obtain ⟨hp, h3⟩ := hk
    refine Or.inl ⟨sp_refill (sa_S A) r, ⟨sp_refill_ok ok.1.2 hp h3, ok.2.2.2.2.2.2.1⟩, fun h L i H HQ hL hi => ⟨?_, ?_⟩, fun h L i H HQ hL hi => ⟨?_, ?_⟩⟩
    · rw [tr_5 HQ hL hi]
      unfold gX10_refusalOfOpenOnly
      rw [pc_hasR H ok hp, Option.bind_some, if_pos rfl, pc_pend po_k21 H.1.2 ok.1.2 hp, Option.bind_some, if_pos (decide_eq_true h3)]
    · obtain ⟨h', g1, g2, g3⟩ := pc_refill po_k21 H.1.2 ok.1.2 hp h3
      rw [tp_5 HQ hL hi, g1, Option.bind_some]
      exact ⟨h', rfl, g2, g3⟩
    · rw [tk_5 HQ hL hi, pm_isR H ok hp, Option.bind_some, if_pos rfl, pm_open H.1.2 ok.1.2 hp, Option.bind_some, if_pos (decide_eq_true h3)]
    · obtain ⟨h', g1, g2, g3⟩ := pm_refill H.1.2 ok.1.2 hp h3
      rw [td_5 HQ hL hi, g1, Option.bind_some]
      exact ⟨h', rfl, g2, g3⟩
  · refine Or.inr ⟨fun h L i H HQ hL hi => ?_, fun h L i H HQ hL hi => ?_⟩
    · rw [tr_5 HQ hL hi]
      rcases rf_open (nI r) ok with ⟨r', hp, h0, e1, _⟩ | ⟨t, u, E, ht, hu, hr, _⟩
      · exfalso
        have x1 := (nI_eq (by omega) (by omega)).mp e1
        subst x1
        exact hk ⟨hp, h0⟩
      · exact ⟨u, hr h H, (lc_3t hu).2⟩
    · rw [tk_5 HQ hL hi]
      by_cases hp : r < sp_nr (sa_S A)
      · have h0 : ¬ sp_r (sa_S A) r 3 = 0 := fun z => hk ⟨hp, z⟩
        rw [pm_isR H ok hp, Option.bind_some, if_pos rfl, pm_open H.1.2 ok.1.2 hp, Option.bind_some, if_neg (by rw [decide_eq_false h0]; decide)]
      · rw [pm_isRn H ok (po_out_of hp (by omega)), Option.bind_some, if_neg (by decide)]
theorem sq_6 (ok : sa_ok A) {b q : Nat} (hb : b ≤ 9999) (hq : q ≤ 9999) : (∃ S', sq_go A (6, [b, q]) S') ∨ sq_no A (6, [b, q]) := by
  have h8 := ok.1.2.1.2.1
  by_cases hk : b < sp_nb (sa_S A) ∧ q ≤ 999 ∧ sp_held (sa_S A) b ≤ q
  · obtain ⟨hp, h2, hn⟩ := hk
    have hh := sp_held_le ok.1.2 hp
    have hu := (ok.1.2.2.1 b hp).2.1
    refine Or.inl ⟨sp_cnt (sa_S A) b q, ⟨sp_cnt_ok ok.1.2 hn h2, ok.2.2.2.2.2.2.1⟩, fun h L i H HQ hL hi => ⟨?_, ?_⟩, fun h L i H HQ hL hi => ⟨?_, ?_⟩⟩
    · rw [tr_6 HQ hL hi]
      unfold gX10_refusalOfCount
      rw [pc_hasB H ok hp, Option.bind_some, if_pos rfl, po_outside_in (y := 0) (z := 999) (Nat.zero_le _) h2 (by decide) rfl rfl rfl, Option.bind_some, if_neg (by decide), show gX4_get 26 (nI b) h = some (nI (sp_held (sa_S A) b)) from pc_g5 po_k21 H.1.2 ok.1.2 hp, Option.bind_some, if_neg (nI_nlt hn (by omega))]
    · obtain ⟨h', g1, g2, g3⟩ := pc_count po_k21 H.1.2 ok.1.2 (c := q) hp
      rw [tp_6 HQ hL hi, g1, Option.bind_some]
      exact ⟨h', rfl, g2, po_st_in g3⟩
    · rw [tk_6 HQ hL hi, pm_isB H ok hp, Option.bind_some, if_pos rfl, if_neg (show ¬ 999 < nI q from nI_nlt (a := 999) h2 (by decide)), pm_held H.1.2 ok.1.2 (by omega), Option.bind_some, if_neg (nI_nlt hn (by omega))]
    · obtain ⟨h', g1, g2, g3⟩ := pm_count H.1.2 ok.1.2 (c := q) hp
      rw [td_6 HQ hL hi, g1, Option.bind_some]
      exact ⟨h', rfl, g2, g3⟩
  · refine Or.inr ⟨fun h L i H HQ hL hi => ?_, fun h L i H HQ hL hi => ?_⟩
    · rw [tr_6 HQ hL hi]
      rcases rf_count (nI b) (nI q) ok with ⟨b', q', hp, h2, hn, e1, e2, _⟩ | ⟨t, E, ht, hr, _⟩
      · exfalso
        have x1 := (nI_eq (by omega) (by omega)).mp e1
        have x2 := (nI_eq (by omega) (by omega)).mp e2
        subst x1
        subst x2
        exact hk ⟨hp, h2, hn⟩
      · exact ⟨t, hr h H, (lc_3t ht).2⟩
    · rw [tk_6 HQ hL hi]
      by_cases hp : b < sp_nb (sa_S A)
      · have hh := sp_held_le ok.1.2 hp
        have hu := (ok.1.2.2.1 b hp).2.1
        rw [pm_isB H ok hp, Option.bind_some, if_pos rfl]
        by_cases h2 : q ≤ 999
        · have hn : ¬ sp_held (sa_S A) b ≤ q := fun z => hk ⟨hp, h2, z⟩
          rw [if_neg (show ¬ 999 < nI q from nI_nlt (a := 999) h2 (by decide)), pm_held H.1.2 ok.1.2 (by omega), Option.bind_some, if_pos (nI_lt (by omega) (by omega))]
        · rw [if_pos (show 999 < nI q from nI_lt (a := 999) (by omega) (by omega))]
      · rw [pm_isBn H ok (po_out_of hp (by omega)), Option.bind_some, if_neg (by decide)]
theorem sq_7 (ok : sa_ok A) : (∃ S', sq_go A (7, []) S') ∨ sq_no A (7, []) := by
  refine Or.inl ⟨sp_wo (sa_S A), ⟨sp_wos_ok ok.1.2 _, by rw [show sp_dy (sp_wo (sa_S A)) = sp_dy (sa_S A) from sp_wos_dy _ _]; exact ok.2.2.2.2.2.2.1⟩, fun h L i H HQ hL hi => ⟨?_, ?_⟩, fun h L i H HQ hL hi => ⟨?_, ?_⟩⟩
  · exact tr_7 HQ hL hi
  · obtain ⟨h', g1, g2, g3⟩ := pc_wo po_k21 H.1.2 ok.1.2
    rw [tp_7 HQ hL hi, g1, Option.bind_some]
    exact ⟨h', rfl, g2, po_st_in g3⟩
  · exact tk_7 HQ hL hi
  · obtain ⟨h', g1, g2, g3⟩ := pm_wo H.1.2 ok.1.2
    rw [td_7 HQ hL hi, g1, Option.bind_some]
    exact ⟨h', rfl, g2, g3⟩
theorem sq_8 (ok : sa_ok A) {d : Nat} (hd : d ≤ 9999) : (∃ S', sq_go A (8, [d]) S') ∨ sq_no A (8, [d]) := by
  have hdy := ok.1.2.1.1
  by_cases hk : (1 ≤ d ∧ d ≤ 999) ∧ sp_dy (sa_S A) + d ≤ 9999
  · obtain ⟨⟨h1, h2⟩, h0⟩ := hk
    refine Or.inl ⟨sp_adv (sa_S A) d, ⟨sp_adv_ok ok.1.2 (by omega), h0⟩, fun h L i H HQ hL hi => ⟨?_, ?_⟩, fun h L i H HQ hL hi => ⟨?_, ?_⟩⟩
    · rw [tr_8 HQ hL hi]
      unfold gX10_refusalOfDays
      rw [po_outside_in (y := 1) (z := 999) h1 h2 (by decide) rfl rfl rfl, Option.bind_some, if_neg (by decide), H.1.2.1.1, nI_add, if_neg (show ¬ 9999 < nI (sp_dy (sa_S A) + d) from nI_nlt (a := 9999) (by omega) (by decide))]
    · obtain ⟨h', g1, g2, g3⟩ := pc_advance po_k21 H.1.2 ok.1.2 (d := d) (by omega)
      rw [tp_8 HQ hL hi, g1, Option.bind_some]
      exact ⟨h', rfl, g2, po_st_in g3⟩
    · rw [tk_8 HQ hL hi, po_in_in (y := 1) (z := 999) h1 h2 (by decide) rfl rfl rfl, Option.bind_some, if_pos rfl, if_pos po_m0, pm_dy H.1.2, nI_add, if_neg (show ¬ 9999 < nI (sp_dy (sa_S A) + d) from nI_nlt (a := 9999) (by omega) (by decide))]
    · obtain ⟨h', g1, g2, g3⟩ := pm_advance H.1.2 ok.1.2 (d := d) (by omega)
      rw [td_8 HQ hL hi, g1, Option.bind_some]
      exact ⟨h', rfl, g2, g3⟩
  · refine Or.inr ⟨fun h L i H HQ hL hi => ?_, fun h L i H HQ hL hi => ?_⟩
    · rw [tr_8 HQ hL hi]
      rcases rf_days (nI d) ok with ⟨d', h1, h2, h0, e1, _⟩ | ⟨t, u, E, ht, hu, hr, _⟩
      · exfalso
        have x1 := (nI_eq (by omega) (by omega)).mp e1
        subst x1
        exact hk ⟨⟨h1, h2⟩, h0⟩
      · exact ⟨u, hr h H, (lc_3t hu).2⟩
    · rw [tk_8 HQ hL hi]
      by_cases h1 : 1 ≤ d ∧ d ≤ 999
      · have h0 : ¬ sp_dy (sa_S A) + d ≤ 9999 := fun z => hk ⟨h1, z⟩
        rw [po_in_in (y := 1) (z := 999) h1.1 h1.2 (by decide) rfl rfl rfl, Option.bind_some, if_pos rfl, if_pos po_m0, pm_dy H.1.2, nI_add, if_pos (show 9999 < nI (sp_dy (sa_S A) + d) from nI_lt (a := 9999) (by omega) (by omega))]
      · rw [po_in_no' (y := 1) (z := 999) (po_no_of h1 (by omega) (by decide)) rfl rfl, Option.bind_some, if_neg (by decide)]
theorem sp_lc {l : List Nat} {n : Nat} (h : l.length = n + 1) : ∃ a m, l = a :: m ∧ m.length = n := by
  cases l with
  | nil => cases h
  | cons a m => exact ⟨a, m, rfl, Nat.succ.inj h⟩
theorem sp_lz {l : List Nat} (h : l.length = 0) : l = [] := by
  cases l with
  | nil => rfl
  | cons a m => cases h
theorem sq_all (ok : sa_ok A) {q : sp_Q} (hv : sp_qv (sa_C A) q) : (∃ S', sq_go A q S') ∨ sq_no A q := by
  obtain ⟨c, l⟩ := q
  obtain ⟨v1, v2, v3, v4⟩ := hv
  dsimp only at v1 v2 v3 v4
  have hs : c = 0 ∨ c = 1 ∨ c = 2 ∨ c = 3 ∨ c = 4 ∨ c = 5 ∨ c = 6 ∨ c = 7 ∨ c = 8 := by omega
  rcases hs with rfl | rfl | rfl | rfl | rfl | rfl | rfl | rfl | rfl
  · obtain ⟨a, l, rfl, w1⟩ := sp_lc (n := 3) v2
    obtain ⟨b, l, rfl, w2⟩ := sp_lc w1
    obtain ⟨d, l, rfl, w3⟩ := sp_lc w2
    obtain ⟨e, l, rfl, w4⟩ := sp_lc w3
    have := sp_lz w4
    subst this
    obtain ⟨p, m, e1, hp⟩ := v3 (by decide)
    obtain ⟨rfl, rfl⟩ := List.cons.inj e1
    exact sq_0 ok hp (v4 _ (by simp)) (v4 _ (by simp)) (v4 _ (by simp))
  · obtain ⟨a, l, rfl, w1⟩ := sp_lc (n := 1) v2
    obtain ⟨b, l, rfl, w2⟩ := sp_lc w1
    have := sp_lz w2
    subst this
    obtain ⟨p, m, e1, hp⟩ := v3 (by decide)
    obtain ⟨rfl, rfl⟩ := List.cons.inj e1
    exact sq_1 ok hp (v4 _ (by simp))
  · obtain ⟨a, l, rfl, w1⟩ := sp_lc (n := 2) v2
    obtain ⟨b, l, rfl, w2⟩ := sp_lc w1
    obtain ⟨d, l, rfl, w3⟩ := sp_lc w2
    have := sp_lz w3
    subst this
    obtain ⟨p, m, e1, hp⟩ := v3 (by decide)
    obtain ⟨rfl, rfl⟩ := List.cons.inj e1
    exact sq_2 ok hp (v4 _ (by simp)) (v4 _ (by simp))
  · obtain ⟨a, l, rfl, w1⟩ := sp_lc (n := 0) v2
    have := sp_lz w1
    subst this
    exact sq_3 ok (v4 _ (by simp))
  · obtain ⟨a, l, rfl, w1⟩ := sp_lc (n := 0) v2
    have := sp_lz w1
    subst this
    exact sq_4 ok (v4 _ (by simp))
  · obtain ⟨a, l, rfl, w1⟩ := sp_lc (n := 0) v2
    have := sp_lz w1
    subst this
    exact sq_5 ok (v4 _ (by simp))
  · obtain ⟨a, l, rfl, w1⟩ := sp_lc (n := 1) v2
    obtain ⟨b, l, rfl, w2⟩ := sp_lc w1
    have := sp_lz w2
    subst this
    exact sq_6 ok (v4 _ (by simp)) (v4 _ (by simp))
  · have := sp_lz (l := l) v2
    subst this
    exact sq_7 ok
  · obtain ⟨a, l, rfl, w1⟩ := sp_lc (n := 0) v2
    have := sp_lz w1
    subst this
    exact sq_8 ok (v4 _ (by simp))
end PRD

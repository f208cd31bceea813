section PQE
variable {A : sp_A} {h : mm_H}
/-! receive -/
theorem po_data_in {x y z : Int32} {q e c : Nat} (h1 : 1 ≤ q) (h2 : q ≤ 999) (h3 : e ≤ 9999) (h4 : 1 ≤ c) (h5 : c ≤ 999) (hx : x = nI q) (hy : y = nI e) (hz : z = nI c) : gX11_isBatchData x y z h = some true := by
  unfold gX11_isBatchData
  rw [po_in_in (y := 1) (z := 999) h1 h2 (by decide) hx rfl rfl, Option.bind_some, if_pos rfl, po_in_in (y := 0) (z := 9999) (Nat.zero_le _) h3 (by decide) hy rfl rfl, Option.bind_some, if_pos rfl, po_in_in (y := 1) (z := 999) h4 h5 (by decide) hz rfl rfl, Option.bind_some, if_pos rfl]
/-- the three numbers of a batch: all in their ranges, or not -/
theorem po_data (x y z : Int32) : (∃ q e c, 1 ≤ q ∧ q ≤ 999 ∧ e ≤ 9999 ∧ 1 ≤ c ∧ c ≤ 999 ∧ x = nI q ∧ y = nI e ∧ z = nI c) ∨ (po_no x 1 999 ∨ po_no y 0 9999 ∨ po_no z 1 999) := by
  rcases po_cr x (a := 1) (b := 999) (by decide) (by decide) with ⟨q, h1, h2, h3⟩ | hx
  · rcases po_cr y (a := 0) (b := 9999) (by decide) (by decide) with ⟨e, _, h5, h6⟩ | hy
    · rcases po_cr z (a := 1) (b := 999) (by decide) (by decide) with ⟨c, h7, h8, h9⟩ | hz
      · exact Or.inl ⟨q, e, c, h1, h2, h5, h7, h8, h3, h6, h9⟩
      · exact Or.inr (Or.inr (Or.inr hz))
    · exact Or.inr (Or.inr (Or.inl hy))
  · exact Or.inr (Or.inl hx)
theorem po_data_no {x y z : Int32} (hn : po_no x 1 999 ∨ po_no y 0 9999 ∨ po_no z 1 999) : gX11_isBatchData x y z h = some false := by
  unfold gX11_isBatchData
  rcases po_cr x (a := 1) (b := 999) (by decide) (by decide) with ⟨q, h1, h2, h3⟩ | hx
  · rw [po_in_in (y := 1) (z := 999) h1 h2 (by decide) h3 rfl rfl, Option.bind_some, if_pos rfl]
    rcases po_cr y (a := 0) (b := 9999) (by decide) (by decide) with ⟨e, h4, h5, h6⟩ | hy
    · rw [po_in_in (y := 0) (z := 9999) h4 h5 (by decide) h6 rfl rfl, Option.bind_some, if_pos rfl]
      rcases po_cr z (a := 1) (b := 999) (by decide) (by decide) with ⟨c, h7, h8, h9⟩ | hz
      · exfalso
        subst h3
        subst h6
        subst h9
        rcases hn with h | h | h
        · rcases h with h | h
          · exact nI_nlt h1 (by omega) h
          · exact nI_nlt h2 (by omega) h
        · rcases h with h | h
          · exact nI_nlt h4 (by omega) h
          · exact nI_nlt h5 (by omega) h
        · rcases h with h | h
          · exact nI_nlt h7 (by omega) h
          · exact nI_nlt h8 (by omega) h
      · rw [po_in_no' (y := 1) (z := 999) hz rfl rfl, Option.bind_some, if_neg (by decide)]
    · rw [po_in_no' (y := 0) (z := 9999) hy rfl rfl, Option.bind_some, if_neg (by decide)]
  · rw [po_in_no' (y := 1) (z := 999) hx rfl rfl, Option.bind_some, if_neg (by decide)]
theorem rf_receive (x y z u : Int32) (ok : sa_ok A) : (∃ p q e c, p < sp_np (sa_C A) ∧ (1 ≤ q ∧ q ≤ 999 ∧ e ≤ 9999 ∧ 1 ≤ c ∧ c ≤ 999) ∧ sp_nb (sa_S A) < 20 ∧ x = nI p ∧ y = nI q ∧ z = nI e ∧ u = nI c ∧ (∀ h, ra_c A h → gX10_refusalOfReceive x y z u h = some 0)) ∨
    ∃ t E, ((t = 1 ∧ E = po_IO) ∨ (t = 2 ∧ E = po_IA) ∨ (t = 3 ∧ E = po_IS)) ∧ (∀ h, ra_c A h → gX10_refusalOfReceive x y z u h = some t) ∧ ∀ h, ra_m A h → gX11_receive x y z u h = some (0, ms_I h 352 9 t) := by
  have h8 := ok.1.1.1
  have hb20 := ok.1.2.1.2.1
  rcases po_cs x (n := sp_np (sa_C A)) (by omega) with ⟨p, hp, rfl⟩ | hx
  · rcases po_data y z u with ⟨q, e, c, h1, h2, h3, h4, h5, rfl, rfl, rfl⟩ | hn
    · have hc : ∀ h, ra_c A h → gX10_refusalOfReceive (nI p) (nI q) (nI e) (nI c) h = if sp_nb (sa_S A) < 20 then some 0 else some 3 := fun h H => by
        unfold gX10_refusalOfReceive
        rw [pc_hasP H ok hp, Option.bind_some, if_pos rfl, po_outside_in (y := 1) (z := 999) h1 h2 (by decide) rfl rfl rfl, Option.bind_some, if_neg (by decide), po_outside_in (y := 0) (z := 9999) (Nat.zero_le _) h3 (by decide) rfl rfl rfl, Option.bind_some, if_neg (by decide), po_outside_in (y := 1) (z := 999) h4 h5 (by decide) rfl rfl rfl, Option.bind_some, if_neg (by decide), H.1.2.1.2.1]
        by_cases hn : sp_nb (sa_S A) < 20
        · rw [if_pos (show nI (sp_nb (sa_S A)) < 20 from nI_lt hn (by decide)), if_pos hn]
        · rw [if_neg (show ¬ nI (sp_nb (sa_S A)) < 20 from nI_nlt (b := 20) (by omega) (by omega)), if_neg hn]
      by_cases hn : sp_nb (sa_S A) < 20
      · exact Or.inl ⟨p, q, e, c, hp, ⟨h1, h2, h3, h4, h5⟩, hn, rfl, rfl, rfl, rfl, fun h H => by rw [hc h H, if_pos hn]⟩
      · refine Or.inr ⟨3, po_IS, Or.inr (Or.inr ⟨rfl, rfl⟩), fun h H => by rw [hc h H, if_neg hn], fun h H => ?_⟩
        unfold gX11_receive
        have e20 : sp_nb (sa_S A) = 20 := by omega
        rw [pm_isP H ok hp, Option.bind_some]
        dsimp only [mm_jn]
        rw [if_pos rfl, po_data_in h1 h2 h3 h4 h5 rfl rfl rfl, Option.bind_some, if_pos rfl, if_pos po_m2, pm_nb H.1.2, e20, if_pos (show nI 20 = 20 from rfl), po_fails_3, Option.bind_some, if_pos rfl]
    · refine Or.inr ⟨2, po_IA, Or.inr (Or.inl ⟨rfl, rfl⟩), fun h H => ?_, fun h H => ?_⟩
      · unfold gX10_refusalOfReceive
        rw [pc_hasP H ok hp, Option.bind_some, if_pos rfl]
        rcases po_cr y (a := 1) (b := 999) (by decide) (by decide) with ⟨q, h1, h2, h3⟩ | hy
        · rw [po_outside_in (y := 1) (z := 999) h1 h2 (by decide) h3 rfl rfl, Option.bind_some, if_neg (by decide)]
          rcases po_cr z (a := 0) (b := 9999) (by decide) (by decide) with ⟨e, h4, h5, h6⟩ | hz
          · rw [po_outside_in (y := 0) (z := 9999) h4 h5 (by decide) h6 rfl rfl, Option.bind_some, if_neg (by decide)]
            rcases po_cr u (a := 1) (b := 999) (by decide) (by decide) with ⟨c, h7, h8', h9⟩ | hu
            · exfalso
              have k1 := po_data_no (h := h) hn
              rw [po_data_in h1 h2 h5 h7 h8' h3 h6 h9] at k1
              cases k1
            · rw [po_outside_no (y := 1) (z := 999) hu rfl rfl, Option.bind_some, if_pos rfl]
          · rw [po_outside_no (y := 0) (z := 9999) hz rfl rfl, Option.bind_some, if_pos rfl]
        · rw [po_outside_no (y := 1) (z := 999) hy rfl rfl, Option.bind_some, if_pos rfl]
      · unfold gX11_receive
        rw [pm_isP H ok hp, Option.bind_some]
        dsimp only [mm_jn]
        rw [if_pos rfl, po_data_no hn, Option.bind_some, if_neg (by decide), if_pos po_m2]
        by_cases h20 : mh_I h 353 (Int32.toNatClampNeg 2) = 20
        · rw [if_pos h20, po_fails_2, Option.bind_some, if_pos rfl]
        · rw [if_neg h20, po_fails_2, Option.bind_some, if_pos rfl]
  · refine Or.inr ⟨1, po_IO, Or.inl ⟨rfl, rfl⟩, fun h H => ?_, fun h H => ?_⟩
    · unfold gX10_refusalOfReceive
      rw [pc_hasPn H hx, Option.bind_some, if_neg (by decide)]
    · unfold gX11_receive
      rw [pm_isPn H ok hx, Option.bind_some]
      dsimp only [mm_jn]
      rw [if_neg (by decide)]
      have hd : ∃ b, gX11_isBatchData y z u h = some b := by
        rcases po_data y z u with ⟨q, e, c, h1, h2, h3, h4, h5, rfl, rfl, rfl⟩ | hn
        · exact ⟨_, po_data_in h1 h2 h3 h4 h5 rfl rfl rfl⟩
        · exact ⟨_, po_data_no hn⟩
      obtain ⟨b, hb⟩ := hd
      rw [hb, Option.bind_some]
      cases b
      · rw [if_neg (by decide), if_pos po_m2]
        by_cases h20 : mh_I h 353 (Int32.toNatClampNeg 2) = 20
        · rw [if_pos h20, po_fails_1, Option.bind_some, if_pos rfl]
        · rw [if_neg h20, po_fails_1, Option.bind_some, if_pos rfl]
      · rw [if_pos rfl, if_pos po_m2]
        by_cases h20 : mh_I h 353 (Int32.toNatClampNeg 2) = 20
        · rw [if_pos h20, po_fails_1, Option.bind_some, if_pos rfl]
        · rw [if_neg h20, po_fails_1, Option.bind_some, if_pos rfl]
theorem lc_3t {t : Int32} {E : String} (ht : (t = 1 ∧ E = po_IO) ∨ (t = 2 ∧ E = po_IA) ∨ (t = 3 ∧ E = po_IS)) : lc_3 po_IO po_IA po_IS E = some t ∧ ¬ t = 0 := by
  rcases ht with ⟨rfl, rfl⟩ | ⟨rfl, rfl⟩ | ⟨rfl, rfl⟩
  · exact ⟨lc_3a, by decide⟩
  · exact ⟨lc_3b, by decide⟩
  · exact ⟨lc_3c, by decide⟩
theorem op_receive (x y z u : Int32) : op_run (lc_3 po_IO po_IA po_IS) (gX10_receive x y z u) (gX11_receive x y z u) := by
  intro A ok
  have h8 := ok.1.1.1
  rcases rf_receive x y z u ok with ⟨p, q, e, c, hp, ⟨h1, h2, h3, h4, h5⟩, hn, rfl, rfl, rfl, rfl, hr⟩ | ⟨t, E, ht, hr, hm⟩
  · refine op_chg ok (S := sp_add (sa_S A) p q e c) (v := nI (sp_nb (sa_S A))) (sp_add_ok ok.1.2 hn (by omega) h2 h3 h5) ok.2.2.2.2.2.2.1 (fun h h1' H e1 HS => ?_) (fun h h1' H e1 HS => ?_)
    · obtain ⟨h2', g1, g2, g3⟩ := pc_add po_k21 HS ok.1.2 (q := q) (e := e) (c := c) hn (show p < 8 by omega)
      unfold gX10_receive
      rw [hr h H, Option.bind_some, po_rf0, Option.bind_some]
      dsimp only
      rw [e1, Option.bind_some, g1, Option.bind_some]
      exact ⟨h2', rfl, g2, po_st_in g3⟩
    · obtain ⟨h2', g1, g2, g3⟩ := pm_add HS ok.1.2 (q := q) (e := e) (c := c) hn (show p < 8 by omega)
      unfold gX11_receive
      rw [pm_isP H ok hp, Option.bind_some]
      dsimp only [mm_jn]
      rw [if_pos rfl, po_data_in h1 h2 h3 h4 h5 rfl rfl rfl, Option.bind_some, if_pos rfl, if_pos po_m2, pm_nb H.1.2, if_neg (show ¬ nI (sp_nb (sa_S A)) = 20 from fun z => by have := (nI_eq (b := 20) (by omega) (by decide)).mp z; omega), po_fails_0, Option.bind_some, if_neg Bool.false_ne_true, e1, Option.bind_some, g1, Option.bind_some]
      exact ⟨h2', rfl, g2, g3⟩
  · refine op_no ok (lc_3t ht).1 (lc_3t ht).2 (fun h H => ?_) hm
    unfold gX10_receive
    rw [hr h H, Option.bind_some, po_rfE ht]
    rfl
/-! issue -/
theorem rf_issue (x y : Int32) (ok : sa_ok A) : (∃ p q, p < sp_np (sa_C A) ∧ (1 ≤ q ∧ q ≤ 9999) ∧ q ≤ sp_av (sa_S A) p (sp_dy (sa_S A)) ∧ x = nI p ∧ y = nI q ∧ (∀ h, ra_c A h → gX10_refusalOfIssue x y h = some 0)) ∨
    ∃ t E, ((t = 1 ∧ E = po_IO) ∨ (t = 2 ∧ E = po_IA) ∨ (t = 3 ∧ E = po_IS)) ∧ (∀ h, ra_c A h → gX10_refusalOfIssue x y h = some t) ∧ ∀ h, ra_m A h → gX11_issue x y h = some (0, ms_I h 352 9 t) := by
  have h8 := ok.1.1.1
  have hdy := ok.1.2.1.1
  rcases po_cs x (n := sp_np (sa_C A)) (by omega) with ⟨p, hp, rfl⟩ | hx
  · have hav := sp_av_le ok.1.2 p (sp_dy (sa_S A))
    rcases po_cr y (a := 1) (b := 9999) (by decide) (by decide) with ⟨q, h1, h2, rfl⟩ | hy
    · have hc : ∀ h, ra_c A h → gX10_refusalOfIssue (nI p) (nI q) h = if q ≤ sp_av (sa_S A) p (sp_dy (sa_S A)) then some 0 else some 3 := fun h H => by
        unfold gX10_refusalOfIssue
        rw [pc_hasP H ok hp, Option.bind_some, if_pos rfl, po_outside_in (y := 1) (z := 9999) h1 h2 (by decide) rfl rfl rfl, Option.bind_some, if_neg (by decide), H.1.2.1.1, pc_avail po_k21 H.1.2 ok.1.2 (by omega) (by omega), Option.bind_some]
        by_cases hn : q ≤ sp_av (sa_S A) p (sp_dy (sa_S A))
        · rw [if_neg (nI_nlt hn (by omega)), if_pos hn]
        · rw [if_pos (nI_lt (by omega) (by omega)), if_neg hn]
      by_cases hn : q ≤ sp_av (sa_S A) p (sp_dy (sa_S A))
      · exact Or.inl ⟨p, q, hp, ⟨h1, h2⟩, hn, rfl, rfl, fun h H => by rw [hc h H, if_pos hn]⟩
      · refine Or.inr ⟨3, po_IS, Or.inr (Or.inr ⟨rfl, rfl⟩), fun h H => by rw [hc h H, if_neg hn], fun h H => ?_⟩
        unfold gX11_issue
        rw [pm_isP H ok hp, Option.bind_some]
        dsimp only [mm_jn]
        rw [if_pos rfl, po_in_in (y := 1) (z := 9999) h1 h2 (by decide) rfl rfl rfl, Option.bind_some, if_pos rfl, Option.bind_some, if_pos rfl, Option.bind_some, if_pos rfl, if_neg (by decide), pm_canIssue H.1.2 ok.1.2 (by omega) (by omega), Option.bind_some, if_neg (by rw [decide_eq_false hn]; decide), po_fails_3, Option.bind_some, if_pos rfl]
    · refine Or.inr ⟨2, po_IA, Or.inr (Or.inl ⟨rfl, rfl⟩), fun h H => ?_, fun h H => ?_⟩
      · unfold gX10_refusalOfIssue
        rw [pc_hasP H ok hp, Option.bind_some, if_pos rfl, po_outside_no (y := 1) (z := 9999) hy rfl rfl, Option.bind_some, if_pos rfl]
      · unfold gX11_issue
        rw [pm_isP H ok hp, Option.bind_some]
        dsimp only [mm_jn]
        rw [if_pos rfl, po_in_no' (y := 1) (z := 9999) hy rfl rfl, Option.bind_some, if_neg (by decide), Option.bind_some, if_pos rfl, Option.bind_some, if_neg (by decide), if_pos rfl, po_fails_2, Option.bind_some, if_pos rfl]
  · refine Or.inr ⟨1, po_IO, Or.inl ⟨rfl, rfl⟩, fun h H => ?_, fun h H => ?_⟩
    · unfold gX10_refusalOfIssue
      rw [pc_hasPn H hx, Option.bind_some, if_neg (by decide)]
    · unfold gX11_issue
      rw [pm_isPn H ok hx, Option.bind_some]
      dsimp only [mm_jn]
      rw [if_neg (by decide), Option.bind_some, if_neg (by decide)]
      rcases po_cr y (a := 1) (b := 9999) (by decide) (by decide) with ⟨q, h1, h2, rfl⟩ | hy
      · rw [po_in_in (y := 1) (z := 9999) h1 h2 (by decide) rfl rfl rfl, Option.bind_some, if_pos rfl, if_pos rfl, po_fails_1, Option.bind_some, if_pos rfl]
      · rw [po_in_no' (y := 1) (z := 9999) hy rfl rfl, Option.bind_some, if_neg (by decide), if_pos rfl, po_fails_1, Option.bind_some, if_pos rfl]
theorem op_issue (x y : Int32) : op_run (lc_3 po_IO po_IA po_IS) (gX10_issue x y) (gX11_issue x y) := by
  intro A ok
  have h8 := ok.1.1.1
  have hdy := ok.1.2.1.1
  rcases rf_issue x y ok with ⟨p, q, hp, ⟨h1, h2⟩, hn, rfl, rfl, hr⟩ | ⟨t, E, ht, hr, hm⟩
  · refine op_chg ok (S := sp_issue (sa_S A) p q) (v := nI (sp_icost (sa_S A) p q)) (sp_issue_ok ok.1.2 p q) ok.2.2.2.2.2.2.1 (fun h h1' H e1 HS => ?_) (fun h h1' H e1 HS => ?_)
    · obtain ⟨h2', g1, g2, g3⟩ := pc_issue po_k21 HS ok.1.2 (show p < 8 by omega) (show q < 2 ^ 31 by omega)
      unfold gX10_issue
      rw [hr h H, Option.bind_some, po_rf0, Option.bind_some]
      dsimp only
      rw [e1, Option.bind_some, g1, Option.bind_some]
      exact ⟨h2', rfl, g2, g3⟩
    · obtain ⟨h2', g1, g2, g3⟩ := pm_issue HS ok.1.2 (show p < 8 by omega) (show q < 2 ^ 31 by omega) hn
      unfold gX11_issue
      rw [pm_isP H ok hp, Option.bind_some]
      dsimp only [mm_jn]
      rw [if_pos rfl, po_in_in (y := 1) (z := 9999) h1 h2 (by decide) rfl rfl rfl, Option.bind_some, if_pos rfl, Option.bind_some, if_pos rfl, Option.bind_some, if_pos rfl, if_neg (by decide), pm_canIssue H.1.2 ok.1.2 (by omega) (by omega), Option.bind_some, if_pos (decide_eq_true hn), po_fails_0, Option.bind_some, if_neg Bool.false_ne_true, e1, Option.bind_some, if_pos po_m0, pm_dy HS, g1, Option.bind_some]
      exact ⟨h2', rfl, g2, g3⟩
  · refine op_no ok (lc_3t ht).1 (lc_3t ht).2 (fun h H => ?_) hm
    unfold gX10_issue
    rw [hr h H, Option.bind_some, po_rfE ht]
    rfl
end PQE

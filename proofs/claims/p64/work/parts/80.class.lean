section PCL
/-! the class's calls as the law makes them, with what they do -/
variable {A : sp_A} {h : mm_H}
theorem cc_chg {G : Option ((Int32 ⊕ String) × mm_H)} {S : sp_S} {v : Int32} (H : ra_c A h) (ok : sa_ok A) (hG : ∀ h1, gX2_remember 21 h = some h1 → sc_S (sa_S A) 21 h1 → ∃ h2, G = some (.inl v, h2) ∧ sc_S S 21 h2 ∧ po_fr po_st h1 h2) : ∃ h2, G = some (.inl v, h2) ∧ ra_c (sa_chg A S) h2 ∧ po_fr po_fc h h2 := by
  obtain ⟨h1, e1, e2, e3⟩ := cc_remember H ok
  obtain ⟨h2, g1, g2, g3⟩ := hG h1 e1 e2.1.2
  exact ⟨h2, g1, ra_c_set e2 g2 g3, po_fr_trans e3 (po_fr_mono g3 (fun z hz => po_st_c hz))⟩
theorem cq_productCount (H : ra_c A h) : gX10_productCount h = some (nI (sp_np (sa_C A))) := congrArg some H.1.1.1
theorem cq_day (H : ra_c A h) : gX10_day h = some (nI (sp_dy (sa_S A))) := congrArg some H.1.2.1.1
theorem cq_batchCount (H : ra_c A h) : gX10_batchCount h = some (nI (sp_nb (sa_S A))) := congrArg some H.1.2.1.2.1
theorem cq_reservationCount (H : ra_c A h) : gX10_reservationCount h = some (nI (sp_nr (sa_S A))) := congrArg some H.1.2.1.2.2
theorem cq_productOf (H : ra_c A h) (ok : sa_ok A) {b : Nat} (hb : b < sp_nb (sa_S A)) : gX10_productOf (nI b) h = some (.inl (nI (sp_b (sa_S A) b 0)), h) := by
  unfold gX10_productOf
  rw [pc_ckB H ok hb, Option.bind_some]
  dsimp only
  rw [show gX4_get 22 (nI b) h = some (nI (sp_b (sa_S A) b 0)) from pc_g1 po_k21 H.1.2 ok.1.2 hb, Option.bind_some]
theorem cq_quantity (H : ra_c A h) (ok : sa_ok A) {b : Nat} (hb : b < sp_nb (sa_S A)) : gX10_quantity (nI b) h = some (.inl (nI (sp_b (sa_S A) b 1)), h) := by
  unfold gX10_quantity
  rw [pc_ckB H ok hb, Option.bind_some]
  dsimp only
  rw [show gX4_get 24 (nI b) h = some (nI (sp_b (sa_S A) b 1)) from pc_g3 po_k21 H.1.2 ok.1.2 hb, Option.bind_some]
theorem cq_expiryDay (H : ra_c A h) (ok : sa_ok A) {b : Nat} (hb : b < sp_nb (sa_S A)) : gX10_expiryDay (nI b) h = some (.inl (nI (sp_b (sa_S A) b 2)), h) := by
  unfold gX10_expiryDay
  rw [pc_ckB H ok hb, Option.bind_some]
  dsimp only
  rw [show gX4_get 28 (nI b) h = some (nI (sp_b (sa_S A) b 2)) from pc_g7 po_k21 H.1.2 ok.1.2 hb, Option.bind_some]
theorem cq_unitCost (H : ra_c A h) (ok : sa_ok A) {b : Nat} (hb : b < sp_nb (sa_S A)) : gX10_unitCost (nI b) h = some (.inl (nI (sp_b (sa_S A) b 3)), h) := by
  unfold gX10_unitCost
  rw [pc_ckB H ok hb, Option.bind_some]
  dsimp only
  rw [show gX4_get 30 (nI b) h = some (nI (sp_b (sa_S A) b 3)) from pc_g9 po_k21 H.1.2 ok.1.2 hb, Option.bind_some]
theorem cq_reservedOf (H : ra_c A h) (ok : sa_ok A) {b : Nat} (hb : b < sp_nb (sa_S A)) : gX10_reservedOf (nI b) h = some (.inl (nI (sp_held (sa_S A) b)), h) := by
  unfold gX10_reservedOf
  rw [pc_ckB H ok hb, Option.bind_some]
  dsimp only
  rw [show gX4_get 26 (nI b) h = some (nI (sp_held (sa_S A) b)) from pc_g5 po_k21 H.1.2 ok.1.2 hb, Option.bind_some]
theorem cq_reservedQuantity (H : ra_c A h) (ok : sa_ok A) {r : Nat} (hr : r < sp_nr (sa_S A)) : gX10_reservedQuantity (nI r) h = some (.inl (nI (sp_r (sa_S A) r 1)), h) := by
  unfold gX10_reservedQuantity
  rw [pc_ckR H ok hr, Option.bind_some]
  dsimp only
  rw [show gX4_get 34 (nI r) h = some (nI (sp_r (sa_S A) r 1)) from pc_g13 po_k21 H.1.2 ok.1.2 hr, Option.bind_some]
theorem cq_missing (H : ra_c A h) (ok : sa_ok A) {r : Nat} (hr : r < sp_nr (sa_S A)) : gX10_missing (nI r) h = some (.inl (nI (sp_lack (sa_S A) r)), h) := by
  unfold gX10_missing
  rw [pc_ckR H ok hr, Option.bind_some]
  dsimp only
  rw [pc_missing po_k21 H.1.2 ok.1.2 hr, Option.bind_some]
theorem cq_whyNotShipped (H : ra_c A h) (ok : sa_ok A) {r : Nat} (hr : r < sp_nr (sa_S A)) : gX10_whyNotShipped (nI r) h = some (.inl (nI (sp_why (sa_S A) r)), h) := by
  unfold gX10_whyNotShipped
  rw [pc_ckR H ok hr, Option.bind_some]
  dsimp only
  rw [pc_why po_k21 H.1.2 ok.1.2 hr, Option.bind_some]
theorem cq_isOpen (H : ra_c A h) (ok : sa_ok A) {r : Nat} (hr : r < sp_nr (sa_S A)) : gX10_isOpen (nI r) h = some (.inl (decide (sp_r (sa_S A) r 3 = 0)), h) := by
  unfold gX10_isOpen
  rw [pc_ckR H ok hr, Option.bind_some]
  dsimp only
  rw [pc_pend po_k21 H.1.2 ok.1.2 hr, Option.bind_some]
theorem cc_receive (H : ra_c A h) (ok : sa_ok A) {p q e c : Nat} (hp : p < sp_np (sa_C A)) (hb : (1 ≤ q ∧ q ≤ 999 ∧ e ≤ 9999 ∧ 1 ≤ c ∧ c ≤ 999)) (hn : sp_nb (sa_S A) < 20) : sa_ok (sa_chg A (sp_add (sa_S A) p q e c)) ∧ ∃ h2, gX10_receive (nI p) (nI q) (nI e) (nI c) h = some (.inl (nI (sp_nb (sa_S A))), h2) ∧ ra_c (sa_chg A (sp_add (sa_S A) p q e c)) h2 ∧ po_fr po_fc h h2 := by
  have h8 := ok.1.1.1
  have hdy := ok.2.2.2.2.2.2.1
  have hb20 := ok.1.2.1.2.1
  have hr10 := ok.1.2.1.2.2
  refine ⟨sa_chg_ok ok (sp_add_ok ok.1.2 hn (by omega) hb.2.1 hb.2.2.1 hb.2.2.2.2) hdy, cc_chg H ok (fun h1' e1 HS => ?_)⟩
  have hr : gX10_refusalOfReceive (nI p) (nI q) (nI e) (nI c) h = some 0 := by
    unfold gX10_refusalOfReceive
    obtain ⟨h1, h2, h3, h4, h5⟩ := hb
    rw [pc_hasP H ok hp, Option.bind_some, if_pos rfl, po_outside_in (y := 1) (z := 999) h1 h2 (by decide) rfl rfl rfl, Option.bind_some, if_neg (by decide), po_outside_in (y := 0) (z := 9999) (Nat.zero_le _) h3 (by decide) rfl rfl rfl, Option.bind_some, if_neg (by decide), po_outside_in (y := 1) (z := 999) h4 h5 (by decide) rfl rfl rfl, Option.bind_some, if_neg (by decide), H.1.2.1.2.1, if_pos (show nI (sp_nb (sa_S A)) < 20 from nI_lt hn (by decide))]
  obtain ⟨h2', g1, g2, g3⟩ := pc_add po_k21 HS ok.1.2 (q := q) (e := e) (c := c) hn (show p < 8 by omega)
  unfold gX10_receive
  rw [hr, Option.bind_some, po_rf0, Option.bind_some]
  dsimp only
  rw [e1, Option.bind_some, g1, Option.bind_some]
  exact ⟨h2', rfl, g2, po_st_in g3⟩
theorem cc_issue (H : ra_c A h) (ok : sa_ok A) {p q : Nat} (hp : p < sp_np (sa_C A)) (hb : 1 ≤ q ∧ q ≤ 9999) (hn : q ≤ sp_av (sa_S A) p (sp_dy (sa_S A))) : sa_ok (sa_chg A (sp_issue (sa_S A) p q)) ∧ ∃ h2, gX10_issue (nI p) (nI q) h = some (.inl (nI (sp_icost (sa_S A) p q)), h2) ∧ ra_c (sa_chg A (sp_issue (sa_S A) p q)) h2 ∧ po_fr po_fc h h2 := by
  have h8 := ok.1.1.1
  have hdy := ok.2.2.2.2.2.2.1
  have hb20 := ok.1.2.1.2.1
  have hr10 := ok.1.2.1.2.2
  refine ⟨sa_chg_ok ok (sp_issue_ok ok.1.2 p q) hdy, cc_chg H ok (fun h1' e1 HS => ?_)⟩
  have hr : gX10_refusalOfIssue (nI p) (nI q) h = some 0 := by
    unfold gX10_refusalOfIssue
    have hav := sp_av_le ok.1.2 p (sp_dy (sa_S A))
    rw [pc_hasP H ok hp, Option.bind_some, if_pos rfl, po_outside_in (y := 1) (z := 9999) hb.1 hb.2 (by decide) rfl rfl rfl, Option.bind_some, if_neg (by decide), H.1.2.1.1, pc_avail po_k21 H.1.2 ok.1.2 (by omega) (by omega), Option.bind_some, if_neg (nI_nlt hn (by omega))]
  obtain ⟨h2', g1, g2, g3⟩ := pc_issue po_k21 HS ok.1.2 (show p < 8 by omega) (show q < 2 ^ 31 by omega)
  unfold gX10_issue
  rw [hr, Option.bind_some, po_rf0, Option.bind_some]
  dsimp only
  rw [e1, Option.bind_some, g1, Option.bind_some]
  exact ⟨h2', rfl, g2, g3⟩
theorem cc_reserve (H : ra_c A h) (ok : sa_ok A) {p q d : Nat} (hp : p < sp_np (sa_C A)) (hb : 1 ≤ q ∧ q ≤ 9999 ∧ sp_dy (sa_S A) ≤ d ∧ d ≤ 9999) (hn : sp_nr (sa_S A) < 10 ∧ q ≤ sp_av (sa_S A) p d) : sa_ok (sa_chg A (sp_resrv (sa_S A) p q d)) ∧ ∃ h2, gX10_reserve (nI p) (nI q) (nI d) h = some (.inl (nI (sp_nr (sa_S A))), h2) ∧ ra_c (sa_chg A (sp_resrv (sa_S A) p q d)) h2 ∧ po_fr po_fc h h2 := by
  have h8 := ok.1.1.1
  have hdy := ok.2.2.2.2.2.2.1
  have hb20 := ok.1.2.1.2.1
  have hr10 := ok.1.2.1.2.2
  refine ⟨sa_chg_ok ok (sp_resrv_ok ok.1.2 hn.1 (by omega) hb.2.1 hb.2.2.2) hdy, cc_chg H ok (fun h1' e1 HS => ?_)⟩
  have hr : gX10_refusalOfReserve (nI p) (nI q) (nI d) h = some 0 := by
    unfold gX10_refusalOfReserve
    have hav := sp_av_le ok.1.2 p d
    dsimp only [mm_jn]
    rw [pc_hasP H ok hp, Option.bind_some, if_pos rfl, po_outside_in (y := 1) (z := 9999) hb.1 hb.2.1 (by decide) rfl rfl rfl, Option.bind_some, if_neg (by decide), H.1.2.1.1, po_outside_in (z := 9999) hb.2.2.1 hb.2.2.2 (by decide) rfl rfl rfl, Option.bind_some, if_neg (by decide), H.1.2.1.2.2, if_pos (show nI (sp_nr (sa_S A)) < 10 from nI_lt hn.1 (by decide)), pc_avail po_k21 H.1.2 ok.1.2 (by omega) (by omega), Option.bind_some, if_neg (nI_nlt hn.2 (by omega)), if_neg (show ¬ (1 : Int32) = 0 by decide)]
  obtain ⟨h2', g1, g2, g3⟩ := pc_reserve po_k21 HS ok.1.2 hn.1 (show p < 8 by omega) hb.2.1 hb.2.2.2
  unfold gX10_reserve
  rw [hr, Option.bind_some, po_rf0, Option.bind_some]
  dsimp only
  rw [e1, Option.bind_some, g1, Option.bind_some]
  exact ⟨h2', rfl, g2, g3⟩
theorem cc_ship (H : ra_c A h) (ok : sa_ok A) {r : Nat} (hr : r < sp_nr (sa_S A)) (h0 : sp_why (sa_S A) r = 0) : sa_ok (sa_chg A (sp_ship (sa_S A) r)) ∧ ∃ h2, gX10_ship (nI r) h = some (.inl (nI (sp_shipCost (sa_S A) r)), h2) ∧ ra_c (sa_chg A (sp_ship (sa_S A) r)) h2 ∧ po_fr po_fc h h2 := by
  have h8 := ok.1.1.1
  have hdy := ok.2.2.2.2.2.2.1
  have hb20 := ok.1.2.1.2.1
  have hr10 := ok.1.2.1.2.2
  have h3 := sp_why0 h0
  have hp := hr
  refine ⟨sa_chg_ok ok (sp_ship_ok ok.1.2 hr h3) hdy, cc_chg H ok (fun h1' e1 HS => ?_)⟩
  have hr : gX10_refusalOfShip (nI r) h = some 0 := by
    unfold gX10_refusalOfShip
    rw [pc_hasR H ok hp, Option.bind_some, if_pos rfl, pc_why po_k21 H.1.2 ok.1.2 hp, Option.bind_some, h0, if_pos (show nI 0 = 0 from rfl)]
  obtain ⟨h2', g1, g2, g3⟩ := pc_ship po_k21 HS ok.1.2 hp h3
  unfold gX10_ship
  rw [hr, Option.bind_some, po_rf0, Option.bind_some]
  dsimp only
  rw [e1, Option.bind_some, g1, Option.bind_some]
  exact ⟨h2', rfl, g2, po_st_in g3⟩
theorem cc_cancel (H : ra_c A h) (ok : sa_ok A) {r : Nat} (hp : r < sp_nr (sa_S A)) (h3 : sp_r (sa_S A) r 3 = 0) : sa_ok (sa_chg A (sp_close (sa_S A) r 2)) ∧ ∃ h2, gX10_cancel (nI r) h = some (.inl (nI (sp_alls (sa_S A) r)), h2) ∧ ra_c (sa_chg A (sp_close (sa_S A) r 2)) h2 ∧ po_fr po_fc h h2 := by
  have h8 := ok.1.1.1
  have hdy := ok.2.2.2.2.2.2.1
  have hb20 := ok.1.2.1.2.1
  have hr10 := ok.1.2.1.2.2
  refine ⟨sa_chg_ok ok (sp_close_ok ok.1.2 hp h3 (by decide) (by decide)) hdy, cc_chg H ok (fun h1' e1 HS => ?_)⟩
  have hr : gX10_refusalOfOpenOnly (nI r) h = some 0 := by
    unfold gX10_refusalOfOpenOnly
    rw [pc_hasR H ok hp, Option.bind_some, if_pos rfl, pc_pend po_k21 H.1.2 ok.1.2 hp, Option.bind_some, if_pos (decide_eq_true h3)]
  obtain ⟨h2', g1, g2, g3⟩ := pc_cancel po_k21 HS ok.1.2 hp h3
  unfold gX10_cancel
  rw [hr, Option.bind_some, po_rf0, Option.bind_some]
  dsimp only
  rw [e1, Option.bind_some, g1, Option.bind_some]
  exact ⟨h2', rfl, g2, po_st_in g3⟩
theorem cc_refill (H : ra_c A h) (ok : sa_ok A) {r : Nat} (hp : r < sp_nr (sa_S A)) (h3 : sp_r (sa_S A) r 3 = 0) : sa_ok (sa_chg A (sp_refill (sa_S A) r)) ∧ ∃ h2, gX10_refill (nI r) h = some (.inl (nI (sp_filled (sa_S A) r)), h2) ∧ ra_c (sa_chg A (sp_refill (sa_S A) r)) h2 ∧ po_fr po_fc h h2 := by
  have h8 := ok.1.1.1
  have hdy := ok.2.2.2.2.2.2.1
  have hb20 := ok.1.2.1.2.1
  have hr10 := ok.1.2.1.2.2
  refine ⟨sa_chg_ok ok (sp_refill_ok ok.1.2 hp h3) hdy, cc_chg H ok (fun h1' e1 HS => ?_)⟩
  have hr : gX10_refusalOfOpenOnly (nI r) h = some 0 := by
    unfold gX10_refusalOfOpenOnly
    rw [pc_hasR H ok hp, Option.bind_some, if_pos rfl, pc_pend po_k21 H.1.2 ok.1.2 hp, Option.bind_some, if_pos (decide_eq_true h3)]
  obtain ⟨h2', g1, g2, g3⟩ := pc_refill po_k21 HS ok.1.2 hp h3
  unfold gX10_refill
  rw [hr, Option.bind_some, po_rf0, Option.bind_some]
  dsimp only
  rw [e1, Option.bind_some, g1, Option.bind_some]
  exact ⟨h2', rfl, g2, g3⟩
theorem cc_takeStock (H : ra_c A h) (ok : sa_ok A) {b q : Nat} (hp : b < sp_nb (sa_S A)) (h2 : q ≤ 999) (hn : sp_held (sa_S A) b ≤ q) : sa_ok (sa_chg A (sp_cnt (sa_S A) b q)) ∧ ∃ h2, gX10_takeStock (nI b) (nI q) h = some (.inl (nI q - nI (sp_b (sa_S A) b 1)), h2) ∧ ra_c (sa_chg A (sp_cnt (sa_S A) b q)) h2 ∧ po_fr po_fc h h2 := by
  have h8 := ok.1.1.1
  have hdy := ok.2.2.2.2.2.2.1
  have hb20 := ok.1.2.1.2.1
  have hr10 := ok.1.2.1.2.2
  refine ⟨sa_chg_ok ok (sp_cnt_ok ok.1.2 hn h2) hdy, cc_chg H ok (fun h1' e1 HS => ?_)⟩
  have hr : gX10_refusalOfCount (nI b) (nI q) h = some 0 := by
    unfold gX10_refusalOfCount
    have hh := sp_held_le ok.1.2 hp
    have hu := (ok.1.2.2.1 b hp).2.1
    rw [pc_hasB H ok hp, Option.bind_some, if_pos rfl, po_outside_in (y := 0) (z := 999) (Nat.zero_le _) h2 (by decide) rfl rfl rfl, Option.bind_some, if_neg (by decide), show gX4_get 26 (nI b) h = some (nI (sp_held (sa_S A) b)) from pc_g5 po_k21 H.1.2 ok.1.2 hp, Option.bind_some, if_neg (nI_nlt hn (by omega))]
  obtain ⟨h2', g1, g2, g3⟩ := pc_count po_k21 HS ok.1.2 (c := q) hp
  unfold gX10_takeStock
  rw [hr, Option.bind_some, po_rf0, Option.bind_some]
  dsimp only
  rw [e1, Option.bind_some, g1, Option.bind_some]
  exact ⟨h2', rfl, g2, po_st_in g3⟩
theorem cc_passDays (H : ra_c A h) (ok : sa_ok A) {d : Nat} (h1 : 1 ≤ d) (h2 : d ≤ 999) (h0 : sp_dy (sa_S A) + d ≤ 9999) : sa_ok (sa_chg A (sp_adv (sa_S A) d)) ∧ ∃ h2, gX10_passDays (nI d) h = some (.inl (nI (sp_newx (sa_S A) d)), h2) ∧ ra_c (sa_chg A (sp_adv (sa_S A) d)) h2 ∧ po_fr po_fc h h2 := by
  have h8 := ok.1.1.1
  have hdy := ok.2.2.2.2.2.2.1
  have hb20 := ok.1.2.1.2.1
  have hr10 := ok.1.2.1.2.2
  refine ⟨sa_chg_ok ok (sp_adv_ok ok.1.2 (by omega)) h0, cc_chg H ok (fun h1' e1 HS => ?_)⟩
  have hr : gX10_refusalOfDays (nI d) h = some 0 := by
    unfold gX10_refusalOfDays
    rw [po_outside_in (y := 1) (z := 999) h1 h2 (by decide) rfl rfl rfl, Option.bind_some, if_neg (by decide), H.1.2.1.1, nI_add, if_neg (show ¬ 9999 < nI (sp_dy (sa_S A) + d) from nI_nlt (a := 9999) (by omega) (by decide))]
  obtain ⟨h2', g1, g2, g3⟩ := pc_advance po_k21 HS ok.1.2 (d := d) (by omega)
  unfold gX10_passDays
  rw [hr, Option.bind_some, po_rf0, Option.bind_some]
  dsimp only
  rw [e1, Option.bind_some, g1, Option.bind_some]
  exact ⟨h2', rfl, g2, po_st_in g3⟩
theorem cq_allocation (H : ra_c A h) (ok : sa_ok A) {r b : Nat} (hr : r < sp_nr (sa_S A)) (hb : b < sp_nb (sa_S A)) : gX10_allocation (nI r) (nI b) h = some (.inl (nI (sp_al (sa_S A) r b)), h) := by
  have h9 := ok.1.2.1.2.1
  unfold gX10_allocation
  rw [pc_ckR H ok hr, Option.bind_some]
  dsimp only
  rw [pc_ckB H ok hb, Option.bind_some]
  dsimp only
  rw [pc_alloc po_k21 H.1.2 ok.1.2 hr (by omega), Option.bind_some]
theorem cq_availableOn (H : ra_c A h) (ok : sa_ok A) {p d : Nat} (hp : p < sp_np (sa_C A)) (hd : d ≤ 9999) : gX10_availableOn (nI p) (nI d) h = some (.inl (nI (sp_av (sa_S A) p d)), h) := by
  have h8 := ok.1.1.1
  unfold gX10_availableOn
  rw [pc_ckP H ok hp, Option.bind_some]
  dsimp only
  rw [pc_ckI (y := 0) (z := 9999) (Nat.zero_le _) hd (by decide) rfl rfl rfl, Option.bind_some]
  dsimp only
  rw [pc_avail po_k21 H.1.2 ok.1.2 (by omega) (by omega), Option.bind_some]
theorem cq_costOfIssue (H : ra_c A h) (ok : sa_ok A) {p q : Nat} (hp : p < sp_np (sa_C A)) (hq : 1 ≤ q ∧ q ≤ 9999) (hc : q ≤ sp_av (sa_S A) p (sp_dy (sa_S A))) : ∃ h1, gX10_costOfIssue (nI p) (nI q) h = some (.inl (nI (sp_icost (sa_S A) p q)), h1) ∧ ra_c A h1 ∧ po_fr po_fc h h1 := by
  have h8 := ok.1.1.1
  have hdy := ok.1.2.1.1
  have hav := sp_av_le ok.1.2 p (sp_dy (sa_S A))
  unfold gX10_costOfIssue
  rw [pc_ckP H ok hp, Option.bind_some]
  dsimp only
  rw [pc_ckI (y := 1) (z := 9999) hq.1 hq.2 (by decide) rfl rfl rfl, Option.bind_some]
  dsimp only
  obtain ⟨h1, e1, e2, e3⟩ := pc_issueOrder po_k21 H.1.2 ok.1.2 (p := p) (d := sp_dy (sa_S A)) (by omega) (by omega)
  have H1 := ra_c_fr H e3 (fun q hq => po_od_no (Or.inl hq))
  rw [H.1.2.1.1, pc_avail po_k21 H.1.2 ok.1.2 (by omega) (by omega), Option.bind_some, if_neg (nI_nlt hc (by omega)), e1, Option.bind_some, pc_cost po_k21 H1.1.2 ok.1.2 e2 (fun z hz => (sp_ordk_mem.mp hz).1) (Nat.le_trans sp_ordk_len ok.1.2.1.2.1) (by omega), Option.bind_some]
  exact ⟨h1, rfl, H1, po_fr_mono e3 (fun z hz => po_od_no (Or.inr (po_fc_no hz)))⟩
theorem cq_inconsistencies (H : ra_c A h) (ok : sa_ok A) : gX10_inconsistencies h = some (nI (sp_sum (fun p => if nI (sp_stock (sa_S A) p) = sp_told (sa_S A) p then 0 else 1) (sp_np (sa_C A)))) := by
  have h8 := ok.1.1.1
  refine po_loopF (fun n i s => gX10_inconsistencies_L4 h n (nI s) (nI i)) (sp_np (sa_C A)) (sp_sum (fun p => if nI (sp_stock (sa_S A) p) = sp_told (sa_S A) p then 0 else 1)) _ (fun n => ?_) (fun n i hi => ?_) mm_F 0 (Nat.zero_le _) (Nat.lt_of_le_of_lt (Nat.sub_le _ _) (Nat.lt_of_le_of_lt h8 (by decide)))
  · try dsimp only
    rw [gX10_inconsistencies_L4, H.1.1.1, if_neg (nI_nlt (Nat.le_refl _) (by omega))]
    refine po_loopF (fun n i (_ : Unit) => gX10_inconsistencies_L45 h n (nI (sp_sum (fun p => if nI (sp_stock (sa_S A) p) = sp_told (sa_S A) p then 0 else 1) (sp_np (sa_C A)))) (nI i)) (sp_nb (sa_S A)) (fun _ => ()) _ (fun n => ?_) (fun n i hi => ?_) mm_F 0 (Nat.zero_le _) (pc_nbF ok.1.2)
    · try dsimp only
      rw [gX10_inconsistencies_L45, if_neg (pc_nlt H.1.2 ok.1.2)]
    · try dsimp only
      have hf := sp_free_le ok.1.2 hi
      rw [gX10_inconsistencies_L45, if_pos (pc_lt H.1.2 ok.1.2 hi), pc_free po_k21 H.1.2 ok.1.2 hi, Option.bind_some]
      simp only [mm_jn, Option.bind_some, nI_1]
      rw [if_neg (nI_pos (by omega))]
  · try dsimp only
    rw [gX10_inconsistencies_L4, H.1.1.1, if_pos (nI_lt hi (by omega)), pc_units po_k21 H.1.2 ok.1.2 (by omega), Option.bind_some, pc_told H (by omega), Option.bind_some]
    simp only [mm_jn, Option.bind_some, nI_1, sp_sum]
    by_cases hc : nI (sp_stock (sa_S A) i) = sp_told (sa_S A) i
    · rw [if_pos hc, if_pos hc]
      rfl
    · rw [if_neg hc, if_neg hc]
theorem cc_writeOff (H : ra_c A h) (ok : sa_ok A) : sa_ok (sa_chg A (sp_wo (sa_S A))) ∧ ∃ h2, gX10_writeOffExpired h = some (nI (sp_wosum (sa_S A)), h2) ∧ ra_c (sa_chg A (sp_wo (sa_S A))) h2 ∧ po_fr po_fc h h2 := by
  refine ⟨sa_chg_ok ok (sp_wos_ok ok.1.2 _) (by rw [show sp_dy (sp_wo (sa_S A)) = sp_dy (sa_S A) from sp_wos_dy _ _]; exact ok.2.2.2.2.2.2.1), ?_⟩
  obtain ⟨h1, e1, e2, e3⟩ := cc_remember H ok
  obtain ⟨h2, g1, g2, g3⟩ := pc_wo po_k21 e2.1.2 ok.1.2
  unfold gX10_writeOffExpired
  have g3' := po_st_in g3
  refine ⟨h2, ?_, ra_c_set e2 g2 g3', po_fr_trans e3 (po_fr_mono g3' (fun z hz => po_st_c hz))⟩
  rw [e1, Option.bind_some, show gX7_writeOffExpiredBatches 21 h1 = _ from g1, Option.bind_some]
  rfl
theorem cc_append (H : ra_c A h) (ok : sa_ok A) (a b c d e : Int32) (hn : (sa_T A).1 + 20 ≤ 600) : sa_ok (sa_txt A (sp_app4 (sp_app4 (sp_app4 (sp_app4 (sp_app4 (sa_T A) a) b) c) d) e)) ∧ ∃ h2, gX10_append a b c d e h = some (.inl (nI ((sa_T A).1 + 20)), h2) ∧ ra_c (sa_txt A (sp_app4 (sp_app4 (sp_app4 (sp_app4 (sp_app4 (sa_T A) a) b) c) d) e)) h2 ∧ po_fr po_fc h h2 := by
  obtain ⟨hl, hb⟩ := ok.2.2.2.1
  refine ⟨sa_txt_ok ok (show (sa_T A).1 + 20 ≤ 600 from hn) (sp_app4_b (sp_app4_b (sp_app4_b (sp_app4_b (sp_app4_b hb a) b) c) d) e), ?_⟩
  have H0 := H.2.2.1.1
  unfold gX10_append
  rw [H0.1, show (20 : Int32) = nI 20 from rfl, nI_add, if_neg (show ¬ 600 < nI ((sa_T A).1 + 20) from nI_nlt (a := 600) hn (by decide))]
  obtain ⟨x1, e1, H1, f1⟩ := pc_app4 (x := a) H0 po_c1 (by omega) (by decide)
  obtain ⟨x2, e2, H2, f2⟩ := pc_app4 (x := b) H1 po_c1 (show (sa_T A).1 + 4 + 4 ≤ 600 by omega) (by decide)
  obtain ⟨x3, e3, H3, f3⟩ := pc_app4 (x := c) H2 po_c1 (show (sa_T A).1 + 8 + 4 ≤ 600 by omega) (by decide)
  obtain ⟨x4, e4, H4, f4⟩ := pc_app4 (x := d) H3 po_c1 (show (sa_T A).1 + 12 + 4 ≤ 600 by omega) (by decide)
  obtain ⟨x5, e5, H5, f5⟩ := pc_app4 (x := e) H4 po_c1 (show (sa_T A).1 + 16 + 4 ≤ 600 by omega) (by decide)
  rw [e1, Option.bind_some, e2, Option.bind_some, e3, Option.bind_some, e4, Option.bind_some, e5, Option.bind_some, H5.1]
  have hf := po_fr_trans f1 (po_fr_trans f2 (po_fr_trans f3 (po_fr_trans f4 f5)))
  exact ⟨x5, rfl, ra_c_txt H H5 hf, po_tx1_c hf⟩
theorem cc_truncate (H : ra_c A h) (ok : sa_ok A) {n : Nat} (hn : n ≤ (sa_T A).1) : sa_ok (sa_txt A (n, (sa_T A).2)) ∧ ∃ h2, gX10_truncate (nI n) h = some (.inl (nI n), h2) ∧ ra_c (sa_txt A (n, (sa_T A).2)) h2 ∧ po_fr po_fc h h2 := by
  obtain ⟨hl, hb⟩ := ok.2.2.2.1
  refine ⟨sa_txt_ok ok (Nat.le_trans hn hl) hb, ?_⟩
  obtain ⟨h', e1, H1, f1⟩ := pc_cut (n := n) H.2.2.1.1 hn (by omega)
  unfold gX10_truncate
  rw [H.2.2.1.1.1, pc_ckI (y := 0) (Nat.zero_le _) hn (by omega) rfl rfl rfl, Option.bind_some]
  dsimp only
  rw [e1, Option.bind_some, H1.1]
  exact ⟨h', rfl, ra_c_txt H H1 (po_tx_o f1), po_tx1_c (po_tx_o f1)⟩
end PCL

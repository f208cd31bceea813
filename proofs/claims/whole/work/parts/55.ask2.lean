section PQA
/-! more questions -/
variable {A : sp_A} {S : sp_S} {h : mm_H}
theorem op_nameByte (x y : Int32) : op_run (lc_1 po_IO) (gX10_nameByte x y) (gX11_nameByte x y) := by
  intro A ok
  have h8 := ok.1.1.1
  rcases po_cs x (n := sp_np (sa_C A)) (by omega) with ⟨p, hp, rfl⟩ | hx
  · have h6 := (ok.1.1.2 p hp).1
    rcases po_cs y (n := sp_nl (sa_C A) p) (by omega) with ⟨j, hj, rfl⟩ | hy
    · refine op_q ok (v := nI (sp_lt (sa_C A) p j)) (fun h H => ⟨h, ?_, po_fr_refl h⟩) (fun h H => ?_)
      · unfold gX10_nameByte
        rw [pc_ckP H ok hp, Option.bind_some]
        dsimp only
        rw [pc_len H ok hp, Option.bind_some, po_outside_ix hj (by omega), Option.bind_some, if_neg (by decide)]
        unfold gX1_letterOf
        rw [show nI p * 6 + nI j = nI (6 * p + j) by rw [show (6 : Int32) = nI 6 from rfl, pk_mul, nI_add, Nat.mul_comm], show (14 : Nat) + 1 = 15 from rfl, po_get (by rw [po_c15]; omega) (by decide +kernel), Option.bind_some, Option.bind_some]
        exact congrArg (fun z => some (Sum.inl z, h)) ((H.1.1.2 p hp).2.1 j hj)
      · unfold gX11_nameByte
        rw [pm_isP H ok hp, Option.bind_some]
        dsimp only [mm_jn]
        rw [if_pos rfl, Option.bind_some, if_pos rfl, pm_ofP (x := 0) (w := 0) rfl (by omega) (by decide), Option.bind_some, pm_zL H hp, po_in_ix hj (by omega), Option.bind_some, if_pos rfl, po_fails_0, Option.bind_some, if_neg Bool.false_ne_true, show (1 : Int32) + nI j = nI (1 + j) from (nI_add 1 j), pm_ofP (x := nI (1 + j)) (w := 1 + j) rfl (by omega) (by omega), Option.bind_some, po_I3 (by decide)]
        rw [show 4 + 12 * p + (1 + j) = 420 * 0 + 5 + 12 * p + j by omega, (H.1.1.2 p hp).2.1 j hj]
    · refine op_no ok (t := 1) (v := 0) lc_1a (by decide) (fun h H => ?_) (fun h H => ?_)
      · unfold gX10_nameByte
        rw [pc_ckP H ok hp, Option.bind_some]
        dsimp only
        rw [pc_len H ok hp, Option.bind_some, po_outside_out (by omega) hy, Option.bind_some, if_pos rfl]
      · unfold gX11_nameByte
        rw [pm_isP H ok hp, Option.bind_some]
        dsimp only [mm_jn]
        rw [if_pos rfl, Option.bind_some, if_pos rfl, pm_ofP (x := 0) (w := 0) rfl (by omega) (by decide), Option.bind_some, pm_zL H hp, po_in_out (by omega) hy, Option.bind_some, if_neg (by decide), po_fails_1, Option.bind_some, if_pos rfl]
  · refine op_no ok (t := 1) (v := 0) lc_1a (by decide) (fun h H => ?_) (fun h H => ?_)
    · unfold gX10_nameByte
      rw [pc_ckPn H hx]
      rfl
    · unfold gX11_nameByte
      rw [pm_isPn H ok hx, Option.bind_some]
      dsimp only [mm_jn]
      rw [if_neg (by decide), po_fails_1, Option.bind_some, if_pos rfl]
theorem op_availableOn (x y : Int32) : op_run (lc_2 po_IO po_IA) (gX10_availableOn x y) (gX11_availableOn x y) := by
  intro A ok
  have h8 := ok.1.1.1
  rcases po_cs x (n := sp_np (sa_C A)) (by omega) with ⟨p, hp, rfl⟩ | hx
  · rcases po_cr y (a := 0) (b := 9999) (by decide) (by decide) with ⟨d, hd0, hd, rfl⟩ | hy
    · refine op_q ok (v := nI (sp_av (sa_S A) p d)) (fun h H => ⟨h, ?_, po_fr_refl h⟩) (fun h H => ?_)
      · unfold gX10_availableOn
        rw [pc_ckP H ok hp, Option.bind_some]
        dsimp only
        rw [pc_ckI (y := 0) (z := 9999) hd0 hd (by decide) rfl rfl rfl, Option.bind_some]
        dsimp only
        rw [pc_avail po_k21 H.1.2 ok.1.2 (by omega) (by omega), Option.bind_some]
      · unfold gX11_availableOn
        rw [pm_isP H ok hp, Option.bind_some]
        dsimp only [mm_jn]
        rw [if_pos rfl, po_in_in (y := 0) (z := 9999) hd0 hd (by decide) rfl rfl rfl, Option.bind_some, if_pos rfl, po_fails_0, Option.bind_some, if_neg Bool.false_ne_true, pm_avail (ra_m_9 H ok).1.2 ok.1.2 (by omega) (by omega), Option.bind_some]
    · refine op_no ok (t := 2) (v := 0) lc_2b (by decide) (fun h H => ?_) (fun h H => ?_)
      · unfold gX10_availableOn
        rw [pc_ckP H ok hp, Option.bind_some]
        dsimp only
        rw [pc_ckIn (y := 0) (z := 9999) hy rfl rfl]
        rfl
      · unfold gX11_availableOn
        rw [pm_isP H ok hp, Option.bind_some]
        dsimp only [mm_jn]
        rw [if_pos rfl, po_in_no' (y := 0) (z := 9999) hy rfl rfl, Option.bind_some, if_neg (by decide), po_fails_2, Option.bind_some, if_pos rfl]
  · refine op_no ok (t := 1) (v := 0) lc_2a (by decide) (fun h H => ?_) (fun h H => ?_)
    · unfold gX10_availableOn
      rw [pc_ckPn H hx]
      rfl
    · unfold gX11_availableOn
      rw [pm_isPn H ok hx, Option.bind_some]
      dsimp only [mm_jn]
      rw [if_neg (by decide)]
      rcases po_cr y (a := 0) (b := 9999) (by decide) (by decide) with ⟨d, hd0, hd, rfl⟩ | hy
      · rw [po_in_in (y := 0) (z := 9999) hd0 hd (by decide) rfl rfl rfl, Option.bind_some, if_pos rfl, po_fails_1, Option.bind_some, if_pos rfl]
      · rw [po_in_no' (y := 0) (z := 9999) hy rfl rfl, Option.bind_some, if_neg (by decide), po_fails_1, Option.bind_some, if_pos rfl]
theorem op_expiringWithin (x y : Int32) : op_run (lc_2 po_IO po_IA) (gX10_expiringWithin x y) (gX11_expiringWithin x y) := by
  intro A ok
  have h8 := ok.1.1.1
  have hdy := ok.1.2.1.1
  rcases po_cs x (n := sp_np (sa_C A)) (by omega) with ⟨p, hp, rfl⟩ | hx
  · rcases po_cr y (a := 0) (b := 999) (by decide) (by decide) with ⟨d, hd0, hd, rfl⟩ | hy
    · refine op_q ok (v := nI (sp_btw (sa_S A) p (sp_dy (sa_S A)) (sp_dy (sa_S A) + d + 1))) (fun h H => ⟨h, ?_, po_fr_refl h⟩) (fun h H => ?_)
      · unfold gX10_expiringWithin
        rw [pc_ckP H ok hp, Option.bind_some]
        dsimp only
        rw [pc_ckI (y := 0) (z := 999) hd0 hd (by decide) rfl rfl rfl, Option.bind_some]
        dsimp only
        rw [H.1.2.1.1, nI_add, pc_btw po_k21 H.1.2 ok.1.2 (e := sp_dy (sa_S A) + d + 1) (by omega) (by omega) (fun z hz => by rw [nI_ltI (by omega) (by omega)]; omega), Option.bind_some]
      · unfold gX11_expiringWithin
        rw [pm_isP H ok hp, Option.bind_some]
        dsimp only [mm_jn]
        rw [if_pos rfl, po_in_in (y := 0) (z := 999) hd0 hd (by decide) rfl rfl rfl, Option.bind_some, if_pos rfl, po_fails_0, Option.bind_some, if_neg Bool.false_ne_true, pm_expg (ra_m_9 H ok).1.2 ok.1.2 (by omega) hd]
    · refine op_no ok (t := 2) (v := 0) lc_2b (by decide) (fun h H => ?_) (fun h H => ?_)
      · unfold gX10_expiringWithin
        rw [pc_ckP H ok hp, Option.bind_some]
        dsimp only
        rw [pc_ckIn (y := 0) (z := 999) hy rfl rfl]
        rfl
      · unfold gX11_expiringWithin
        rw [pm_isP H ok hp, Option.bind_some]
        dsimp only [mm_jn]
        rw [if_pos rfl, po_in_no' (y := 0) (z := 999) hy rfl rfl, Option.bind_some, if_neg (by decide), po_fails_2, Option.bind_some, if_pos rfl]
  · refine op_no ok (t := 1) (v := 0) lc_2a (by decide) (fun h H => ?_) (fun h H => ?_)
    · unfold gX10_expiringWithin
      rw [pc_ckPn H hx]
      rfl
    · unfold gX11_expiringWithin
      rw [pm_isPn H ok hx, Option.bind_some]
      dsimp only [mm_jn]
      rw [if_neg (by decide)]
      rcases po_cr y (a := 0) (b := 999) (by decide) (by decide) with ⟨d, hd0, hd, rfl⟩ | hy
      · rw [po_in_in (y := 0) (z := 999) hd0 hd (by decide) rfl rfl rfl, Option.bind_some, if_pos rfl, po_fails_1, Option.bind_some, if_pos rfl]
      · rw [po_in_no' (y := 0) (z := 999) hy rfl rfl, Option.bind_some, if_neg (by decide), po_fails_1, Option.bind_some, if_pos rfl]
/-- units to order -/
def sp_to (A : sp_A) (p : Nat) : Nat := sp_mn (sa_C A) p - sp_av (sa_S A) p (sp_dy (sa_S A))
theorem pc_toOrder (H : ra_c A h) (ok : sa_ok A) {p : Nat} (hp : p < sp_np (sa_C A)) : gX10_unitsToOrder (nI p) h = some (nI (sp_to A p)) := by
  have h8 := ok.1.1.1
  have hdy := ok.1.2.1.1
  have hmn := (ok.1.1.2 p hp).2.1
  have hav := sp_av_le ok.1.2 p (sp_dy (sa_S A))
  unfold gX10_unitsToOrder sp_to
  rw [pc_min H ok hp, Option.bind_some, H.1.2.1.1, pc_avail po_k21 H.1.2 ok.1.2 (by omega) (by omega), Option.bind_some, Option.bind_some]
  refine congrArg some ?_
  rcases Nat.lt_or_ge (sp_mn (sa_C A) p) (sp_av (sa_S A) p (sp_dy (sa_S A))) with h1 | h1
  · have h2 : nI (sp_mn (sa_C A) p) - nI (sp_av (sa_S A) p (sp_dy (sa_S A))) < 0 := pk_sneg (by omega) h1
    unfold mm_max
    rw [if_neg (Int32.not_lt.mpr (Int32.le_of_lt h2)), Nat.sub_eq_zero_of_le (by omega)]
    rfl
  · rw [pk_sub h1, show (0 : Int32) = nI 0 from rfl, po_maxN (by decide) (by omega), Nat.max_eq_right (Nat.zero_le _)]
theorem pm_toOrder (H : ra_m A h) (ok : sa_ok A) {p : Nat} (hp : p < sp_np (sa_C A)) : gX11_toOrder (nI p) h = some (nI (sp_to A p)) := by
  have h8 := ok.1.1.1
  have hdy := ok.1.2.1.1
  have hmn := (ok.1.1.2 p hp).2.1
  have hav := sp_av_le ok.1.2 p (sp_dy (sa_S A))
  unfold gX11_toOrder sp_to
  rw [pm_ofP (x := 7) (w := 7) rfl (by omega) (by decide), pm_zM H hp, Option.bind_some, if_pos po_m0, pm_dy H.1.2, pm_avail H.1.2 ok.1.2 (by omega) (by omega), Option.bind_some, Option.bind_some]
  rcases Nat.lt_or_ge (sp_mn (sa_C A) p) (sp_av (sa_S A) p (sp_dy (sa_S A))) with h1 | h1
  · have h2 : nI (sp_mn (sa_C A) p) - nI (sp_av (sa_S A) p (sp_dy (sa_S A))) < 0 := pk_sneg (by omega) h1
    rw [if_neg (Int32.not_lt.mpr (Int32.le_of_lt h2)), Nat.sub_eq_zero_of_le (by omega)]
    rfl
  · rw [pk_sub h1]
    by_cases h2 : 0 < sp_mn (sa_C A) p - sp_av (sa_S A) p (sp_dy (sa_S A))
    · rw [if_pos (po_0lt h2 (by omega))]
    · rw [if_neg (po_n0lt h2), show sp_mn (sa_C A) p - sp_av (sa_S A) p (sp_dy (sa_S A)) = 0 by omega]
      rfl
theorem op_reorderQuantity (x : Int32) : op_run (lc_1 po_IO) (gX10_reorderQuantity x) (gX11_reorderQuantity x) := by
  intro A ok
  have h8 := ok.1.1.1
  rcases po_cs x (n := sp_np (sa_C A)) (by omega) with ⟨p, hp, rfl⟩ | hx
  · refine op_q ok (v := nI (sp_to A p)) (fun h H => ⟨h, ?_, po_fr_refl h⟩) (fun h H => ?_)
    · unfold gX10_reorderQuantity
      rw [pc_ckP H ok hp, Option.bind_some]
      dsimp only
      rw [pc_toOrder H ok hp, Option.bind_some]
    · unfold gX11_reorderQuantity
      rw [pm_isP H ok hp, Option.bind_some]
      dsimp only [mm_jn]
      rw [if_pos rfl, po_fails_0, Option.bind_some, if_neg Bool.false_ne_true, pm_toOrder (ra_m_9 H ok) ok hp, Option.bind_some]
  · refine op_no ok (t := 1) (v := 0) lc_1a (by decide) (fun h H => ?_) (fun h H => ?_)
    · unfold gX10_reorderQuantity
      rw [pc_ckPn H hx]
      rfl
    · unfold gX11_reorderQuantity
      rw [pm_isPn H ok hx, Option.bind_some]
      dsimp only [mm_jn]
      rw [if_neg (by decide), po_fails_1, Option.bind_some, if_pos rfl]
theorem op_isExpired (x : Int32) : op_run (lc_1 po_IO) (gX10_isExpired x) (gX11_isExpired x) := by
  intro A ok
  have h8 := ok.1.2.1.2.1
  rcases po_cs x (n := sp_nb (sa_S A)) (by omega) with ⟨p, hp, rfl⟩ | hx
  · refine op_q ok (v := decide (sp_b (sa_S A) p 2 < sp_dy (sa_S A))) (fun h H => ⟨h, ?_, po_fr_refl h⟩) (fun h H => ?_)
    · unfold gX10_isExpired
      rw [pc_ckB H ok hp, Option.bind_some]
      dsimp only
      rw [pc_hasExp po_k21 H.1.2 ok.1.2 hp, Option.bind_some]
    · unfold gX11_isExpired
      rw [pm_isB H ok hp, Option.bind_some]
      dsimp only [mm_jn]
      rw [if_pos rfl, po_fails_0, Option.bind_some, if_neg Bool.false_ne_true, pm_past (ra_m_9 H ok).1.2 ok.1.2 hp, Option.bind_some]
  · refine op_no ok (t := 1) (v := false) lc_1a (by decide) (fun h H => ?_) (fun h H => ?_)
    · unfold gX10_isExpired
      rw [pc_ckBn H hx]
      rfl
    · unfold gX11_isExpired
      rw [pm_isBn H ok hx, Option.bind_some]
      dsimp only [mm_jn]
      rw [if_neg (by decide), po_fails_1, Option.bind_some, if_pos rfl]
theorem op_isOpen (x : Int32) : op_run (lc_1 po_IO) (gX10_isOpen x) (gX11_isOpen x) := by
  intro A ok
  have h8 := ok.1.2.1.2.2
  rcases po_cs x (n := sp_nr (sa_S A)) (by omega) with ⟨p, hp, rfl⟩ | hx
  · refine op_q ok (v := decide (sp_r (sa_S A) p 3 = 0)) (fun h H => ⟨h, ?_, po_fr_refl h⟩) (fun h H => ?_)
    · unfold gX10_isOpen
      rw [pc_ckR H ok hp, Option.bind_some]
      dsimp only
      rw [pc_pend po_k21 H.1.2 ok.1.2 hp, Option.bind_some]
    · unfold gX11_isOpen
      rw [pm_isR H ok hp, Option.bind_some]
      dsimp only [mm_jn]
      rw [if_pos rfl, po_fails_0, Option.bind_some, if_neg Bool.false_ne_true, pm_open (ra_m_9 H ok).1.2 ok.1.2 hp, Option.bind_some]
  · refine op_no ok (t := 1) (v := false) lc_1a (by decide) (fun h H => ?_) (fun h H => ?_)
    · unfold gX10_isOpen
      rw [pc_ckRn H hx]
      rfl
    · unfold gX11_isOpen
      rw [pm_isRn H ok hx, Option.bind_some]
      dsimp only [mm_jn]
      rw [if_neg (by decide), po_fails_1, Option.bind_some, if_pos rfl]
theorem op_allocation (x y : Int32) : op_run (lc_1 po_IO) (gX10_allocation x y) (gX11_allocation x y) := by
  intro A ok
  have h8 := ok.1.2.1.2.2
  have h9 := ok.1.2.1.2.1
  rcases po_cs x (n := sp_nr (sa_S A)) (by omega) with ⟨p, hp, rfl⟩ | hx
  · rcases po_cs y (n := sp_nb (sa_S A)) (by omega) with ⟨b, hb, rfl⟩ | hy
    · refine op_q ok (v := nI (sp_al (sa_S A) p b)) (fun h H => ⟨h, ?_, po_fr_refl h⟩) (fun h H => ?_)
      · unfold gX10_allocation
        rw [pc_ckR H ok hp, Option.bind_some]
        dsimp only
        rw [pc_ckB H ok hb, Option.bind_some]
        dsimp only
        rw [pc_alloc po_k21 H.1.2 ok.1.2 hp (by omega), Option.bind_some]
      · unfold gX11_allocation
        rw [pm_isR H ok hp, Option.bind_some]
        dsimp only [mm_jn]
        rw [if_pos rfl, pm_isB H ok hb, Option.bind_some, if_pos rfl, po_fails_0, Option.bind_some, if_neg Bool.false_ne_true, pm_a (ra_m_9 H ok).1.2 ok.1.2 hp (by omega), Option.bind_some]
    · refine op_no ok (t := 1) (v := 0) lc_1a (by decide) (fun h H => ?_) (fun h H => ?_)
      · unfold gX10_allocation
        rw [pc_ckR H ok hp, Option.bind_some]
        dsimp only
        rw [pc_ckBn H hy]
        rfl
      · unfold gX11_allocation
        rw [pm_isR H ok hp, Option.bind_some]
        dsimp only [mm_jn]
        rw [if_pos rfl, pm_isBn H ok hy, Option.bind_some, if_neg (by decide), po_fails_1, Option.bind_some, if_pos rfl]
  · refine op_no ok (t := 1) (v := 0) lc_1a (by decide) (fun h H => ?_) (fun h H => ?_)
    · unfold gX10_allocation
      rw [pc_ckRn H hx]
      rfl
    · unfold gX11_allocation
      rw [pm_isRn H ok hx, Option.bind_some]
      dsimp only [mm_jn]
      rw [if_neg (by decide), po_fails_1, Option.bind_some, if_pos rfl]
theorem op_issueOrder (x y : Int32) : op_run (lc_1 po_IO) (gX10_issueOrder x y) (gX11_issueOrder x y) := by
  intro A ok
  have h8 := ok.1.1.1
  have hdy := ok.1.2.1.1
  have hlen : (sp_ord (sa_S A) 0 0).length ≤ 20 := Nat.le_trans sp_ordk_len ok.1.2.1.2.1
  rcases po_cs x (n := sp_np (sa_C A)) (by omega) with ⟨p, hp, rfl⟩ | hx
  · have hl : (sp_ord (sa_S A) p (sp_dy (sa_S A))).length ≤ 20 := Nat.le_trans sp_ordk_len ok.1.2.1.2.1
    refine op_q ok (v := sp_iord (sa_S A) p y) (fun h H => ?_) (fun h H => ?_)
    · unfold gX10_issueOrder
      rw [pc_ckP H ok hp, Option.bind_some]
      dsimp only
      obtain ⟨h1, e1, e2, e3⟩ := pc_issueOrder po_k21 H.1.2 ok.1.2 (p := p) (d := sp_dy (sa_S A)) (by omega) (by omega)
      rw [H.1.2.1.1, e1, Option.bind_some, e2.1]
      refine ⟨h1, ?_, e3⟩
      unfold sp_iord
      rcases po_cs y (n := (sp_ord (sa_S A) p (sp_dy (sa_S A))).length) (by omega) with ⟨j, hj, rfl⟩ | hy
      · rw [po_outside_ix hj (by omega), Option.bind_some, if_neg (by decide), po_g348 (by omega), Option.bind_some, (e2.2 j hj).1, if_neg (nI_pos (by omega)), if_pos (nI_lt hj (by omega)), nI_clamp (by omega)]
      · rw [po_outside_out (by omega) hy, Option.bind_some, if_pos rfl]
        by_cases h0 : y < 0
        · rw [if_pos h0]
        · rw [if_neg h0, if_neg (hy.resolve_left h0)]
    · unfold gX11_issueOrder
      rw [pm_isP H ok hp, Option.bind_some]
      dsimp only [mm_jn]
      rw [if_pos rfl, po_fails_0, Option.bind_some, if_neg Bool.false_ne_true, pm_iord (ra_m_9 H ok).1.2 ok.1.2 y (by omega)]
  · refine op_no ok (t := 1) (v := 0) lc_1a (by decide) (fun h H => ?_) (fun h H => ?_)
    · unfold gX10_issueOrder
      rw [pc_ckPn H hx]
      rfl
    · unfold gX11_issueOrder
      rw [pm_isPn H ok hx, Option.bind_some]
      dsimp only [mm_jn]
      rw [if_neg (by decide), po_fails_1, Option.bind_some, if_pos rfl]
end PQA

section PPY
/-! questions -/
def lc_1 (E1 : String) (E : String) : Option Int32 := if E = E1 then some 1 else none
def lc_2 (E1 E2 : String) (E : String) : Option Int32 := if E = E1 then some 1 else if E = E2 then some 2 else none
def lc_3 (E1 E2 E3 : String) (E : String) : Option Int32 := if E = E1 then some 1 else if E = E2 then some 2 else if E = E3 then some 3 else none
theorem lc_1a {E : String} : lc_1 E E = some 1 := if_pos rfl
theorem lc_2a {E F : String} : lc_2 E F E = some 1 := if_pos rfl
theorem lc_2b : lc_2 po_IO po_IA po_IA = some 2 := by decide
theorem lc_2s : lc_2 po_IO po_IS po_IS = some 2 := by decide
theorem lc_2i : lc_2 po_IA po_IS po_IS = some 2 := by decide
theorem lc_3a {E F G : String} : lc_3 E F G E = some 1 := if_pos rfl
theorem lc_3b : lc_3 po_IO po_IA po_IS po_IA = some 2 := by decide
theorem lc_3c : lc_3 po_IO po_IA po_IS po_IS = some 3 := by decide
variable {A : sp_A} {S : sp_S} {h : mm_H}
theorem pm_resv (H : sm_S S 0 h) (ok : sp_ok S) {p : Nat} (hp : p < 2 ^ 31) : gX11_reserved_L28 (nI p) h mm_F 0 0 = some (nI (sp_resv S p), h) := by
  refine po_loopF (fun n i s => gX11_reserved_L28 (nI p) h n (nI s) (nI i)) (sp_nb S) (sp_sum (fun b => if sp_b S b 0 = p then sp_held S b else 0)) _ (fun n => ?_) (fun n i hi => ?_) mm_F 0 (Nat.zero_le _) (pc_nbF ok)
  · try dsimp only
    rw [gX11_reserved_L28, if_pos po_m2, if_neg (pm_nlt H ok)]
    rfl
  · try dsimp only
    rw [gX11_reserved_L28, if_pos po_m2, if_pos (pm_lt H ok hi), pm_isOf H ok hi hp]
    simp only [mm_jn, Option.bind_some, nI_1, sp_sum]
    by_cases hc : sp_b S i 0 = p
    · rw [if_pos (decide_eq_true hc), if_pos hc, pm_held H ok (pc_b20 ok hi)]
      simp only [Option.bind_some, nI_add]
    · rw [if_neg (by rw [decide_eq_false hc]; decide), if_neg hc, show (0 : Int32) = nI 0 from rfl]
      simp only [nI_add]
theorem pm_expd (H : sm_S S 0 h) (ok : sp_ok S) {p : Nat} (hp : p < 2 ^ 31) : gX11_expired_L28 (nI p) h mm_F 0 0 = some (nI (sp_btw S p 0 (sp_dy S)), h) := by
  refine po_loopF (fun n i s => gX11_expired_L28 (nI p) h n (nI s) (nI i)) (sp_nb S) (sp_sum (fun b => if sp_b S b 0 = p ∧ 0 ≤ sp_b S b 2 ∧ sp_b S b 2 < sp_dy S then sp_b S b 1 else 0)) _ (fun n => ?_) (fun n i hi => ?_) mm_F 0 (Nat.zero_le _) (pc_nbF ok)
  · try dsimp only
    rw [gX11_expired_L28, if_pos po_m2, if_neg (pm_nlt H ok)]
    rfl
  · try dsimp only
    rw [gX11_expired_L28, if_pos po_m2, if_pos (pm_lt H ok hi), pm_isOf H ok hi hp]
    simp only [mm_jn, Option.bind_some, nI_1, sp_sum]
    by_cases hc : sp_b S i 0 = p
    · rw [if_pos (decide_eq_true hc), pm_past H ok hi]
      simp only [Option.bind_some]
      by_cases hc2 : sp_b S i 2 < sp_dy S
      · rw [if_pos (decide_eq_true hc2), if_pos ⟨hc, Nat.zero_le _, hc2⟩, pm_b H ok (x := 1) (w := 1) rfl hi (by decide)]
        simp only [Option.bind_some, nI_add]
      · rw [if_neg (by rw [decide_eq_false hc2]; decide), if_neg (fun z => hc2 z.2.2), show (0 : Int32) = nI 0 from rfl]
        simp only [nI_add]
    · rw [if_neg (by rw [decide_eq_false hc]; decide), if_neg (fun z => hc z.1), show (0 : Int32) = nI 0 from rfl]
      simp only [nI_add]
theorem pm_expg (H : sm_S S 0 h) (ok : sp_ok S) {p d : Nat} (hp : p < 2 ^ 31) (hd : d ≤ 999) : gX11_expiringWithin_L44 (nI p) (nI d) h mm_F 0 0 = some (nI (sp_btw S p (sp_dy S) (sp_dy S + d + 1)), h) := by
  refine po_loopF (fun n i s => gX11_expiringWithin_L44 (nI p) (nI d) h n (nI s) (nI i)) (sp_nb S) (sp_sum (fun b => if sp_b S b 0 = p ∧ sp_dy S ≤ sp_b S b 2 ∧ sp_b S b 2 < sp_dy S + d + 1 then sp_b S b 1 else 0)) _ (fun n => ?_) (fun n i hi => ?_) mm_F 0 (Nat.zero_le _) (pc_nbF ok)
  · try dsimp only
    rw [gX11_expiringWithin_L44, if_pos po_m2, if_neg (pm_nlt H ok)]
    rfl
  · try dsimp only
    have h9 := (ok.2.1 i hi).2.2.1
    have hdy := ok.1.1
    rw [gX11_expiringWithin_L44, if_pos po_m2, if_pos (pm_lt H ok hi), pm_past H ok hi]
    simp only [mm_jn, Option.bind_some, nI_1, sp_sum, pm_isOf H ok hi hp]
    by_cases hc2 : sp_b S i 2 < sp_dy S
    · rw [if_pos (decide_eq_true hc2), if_neg (show ¬ (sp_b S i 0 = p ∧ sp_dy S ≤ sp_b S i 2 ∧ sp_b S i 2 < sp_dy S + d + 1) by omega), if_pos trivial, show (0 : Int32) = nI 0 from rfl]
      simp only [nI_add, ite_self]
    · rw [if_neg (by rw [decide_eq_false hc2]; decide), pm_b H ok (x := 2) (w := 2) rfl hi (by decide)]
      simp only [Option.bind_some]
      rw [if_pos po_m0, pm_dy H, nI_add]
      by_cases hc3 : sp_dy S + d < sp_b S i 2
      · rw [if_pos (nI_lt hc3 (by omega)), if_neg (show ¬ (sp_b S i 0 = p ∧ sp_dy S ≤ sp_b S i 2 ∧ sp_b S i 2 < sp_dy S + d + 1) by omega), if_pos trivial, show (0 : Int32) = nI 0 from rfl]
        simp only [nI_add, ite_self]
      · rw [if_neg (nI_nlt (by omega) (by omega))]
        by_cases hc : sp_b S i 0 = p
        · rw [if_pos (decide_eq_true hc), if_neg (by decide), if_pos ⟨hc, by omega, by omega⟩, pm_b H ok (x := 1) (w := 1) rfl hi (by decide)]
          simp only [Option.bind_some, nI_add]
        · rw [if_neg (by rw [decide_eq_false hc]; decide), if_neg (fun z => hc z.1), show (0 : Int32) = nI 0 from rfl]
          simp only [nI_add]
theorem pm_pf (H : ra_m A h) (ok : sa_ok A) {p w : Nat} {x : Int32} (hp : p < sp_np (sa_C A)) (hx : x = nI w) (hw : w < 12) : gX11_productField (nI p) x h = some (mh_I h 353 (4 + 12 * p + w), ms_I h 352 9 0) := by
  have h8 := ok.1.1.1
  unfold gX11_productField
  rw [pm_isP H ok hp, Option.bind_some]
  dsimp only [mm_jn]
  rw [if_pos rfl, po_fails_0, Option.bind_some, if_neg Bool.false_ne_true, pm_ofP hx (by omega) hw, Option.bind_some, po_I3 (by decide)]
theorem pm_pfn (H : ra_m A h) (ok : sa_ok A) {x y : Int32} (hx : po_out x (sp_np (sa_C A))) : gX11_productField x y h = some (0, ms_I h 352 9 1) := by
  unfold gX11_productField
  rw [pm_isPn H ok hx, Option.bind_some]
  dsimp only [mm_jn]
  rw [if_neg (by decide), po_fails_1, Option.bind_some, if_pos rfl]
theorem pm_bf (H : ra_m A h) (ok : sa_ok A) {p w : Nat} {x : Int32} (hp : p < sp_nb (sa_S A)) (hx : x = nI w) (hw : w < 4) : gX11_batchField (nI p) x h = some (nI (sp_b (sa_S A) p w), ms_I h 352 9 0) := by
  unfold gX11_batchField
  rw [pm_isB H ok hp, Option.bind_some]
  dsimp only [mm_jn]
  rw [if_pos rfl, po_fails_0, Option.bind_some, if_neg Bool.false_ne_true, pm_b (ra_m_9 H ok).1.2 ok.1.2 hx hp hw, Option.bind_some]
theorem pm_bfn (H : ra_m A h) (ok : sa_ok A) {x y : Int32} (hx : po_out x (sp_nb (sa_S A))) : gX11_batchField x y h = some (0, ms_I h 352 9 1) := by
  unfold gX11_batchField
  rw [pm_isBn H ok hx, Option.bind_some]
  dsimp only [mm_jn]
  rw [if_neg (by decide), po_fails_1, Option.bind_some, if_pos rfl]
theorem pm_rf (H : ra_m A h) (ok : sa_ok A) {p w : Nat} {x : Int32} (hp : p < sp_nr (sa_S A)) (hx : x = nI w) (hw : w < 4) : gX11_reservationField (nI p) x h = some (nI (sp_r (sa_S A) p w), ms_I h 352 9 0) := by
  unfold gX11_reservationField
  rw [pm_isR H ok hp, Option.bind_some]
  dsimp only [mm_jn]
  rw [if_pos rfl, po_fails_0, Option.bind_some, if_neg Bool.false_ne_true, pm_r (ra_m_9 H ok).1.2 ok.1.2 hx hp hw, Option.bind_some]
theorem pm_rfn (H : ra_m A h) (ok : sa_ok A) {x y : Int32} (hx : po_out x (sp_nr (sa_S A))) : gX11_reservationField x y h = some (0, ms_I h 352 9 1) := by
  unfold gX11_reservationField
  rw [pm_isRn H ok hx, Option.bind_some]
  dsimp only [mm_jn]
  rw [if_neg (by decide), po_fails_1, Option.bind_some, if_pos rfl]
theorem po_k21 : mm_kd 21 = (0, 7) := by decide +kernel
theorem po_c19 : mm_cap 19 = 8 := by decide +kernel
theorem po_c17 : mm_cap 17 = 8 := by decide +kernel
theorem po_c15 : mm_cap 15 = 48 := by decide +kernel
theorem pc_min (H : ra_c A h) (ok : sa_ok A) {p : Nat} (hp : p < sp_np (sa_C A)) : gX4_get 19 (nI p) h = some (nI (sp_mn (sa_C A) p)) := by
  have h8 := ok.1.1.1
  rw [po_get (by rw [po_c19]; omega) (by decide +kernel)]
  exact congrArg some (H.1.1.2 p hp).2.2
theorem pc_len (H : ra_c A h) (ok : sa_ok A) {p : Nat} (hp : p < sp_np (sa_C A)) : gX4_get 17 (nI p) h = some (nI (sp_nl (sa_C A) p)) := by
  have h8 := ok.1.1.1
  rw [po_get (by rw [po_c17]; omega) (by decide +kernel)]
  exact congrArg some (H.1.1.2 p hp).1
theorem pc_acc (H : ra_c A h) {p k : Nat} (hp : p < 8) (hk : k = 21 ∨ k = 23 ∨ k = 25 ∨ k = 27 ∨ k = 29) : gX4_get (21 + k) (nI p) h = some (mh_I h (21 + k + 1) p) := by
  obtain ⟨_, _, c21, c23, c25, c27, c29⟩ := po_cap7 po_k21
  rcases hk with rfl | rfl | rfl | rfl | rfl
  · exact po_get (by rw [c21]; exact hp) (by rw [c21]; decide)
  · exact po_get (by rw [c23]; exact hp) (by rw [c23]; decide)
  · exact po_get (by rw [c25]; exact hp) (by rw [c25]; decide)
  · exact po_get (by rw [c27]; exact hp) (by rw [c27]; decide)
  · exact po_get (by rw [c29]; exact hp) (by rw [c29]; decide)
theorem pm_zP (H : ra_m A h) {p w : Nat} (hp : p < 8) (hw : w < 4) : mh_I h 353 (4 + 12 * p + (8 + w)) = sp_ac (sa_S A) p w := by
  rw [show 4 + 12 * p + (8 + w) = 420 * 0 + 12 + 12 * p + w by omega]
  exact H.1.2.2.2.2 p hp w hw
theorem pm_zM (H : ra_m A h) {p : Nat} (hp : p < sp_np (sa_C A)) : mh_I h 353 (4 + 12 * p + 7) = nI (sp_mn (sa_C A) p) := by
  rw [show 4 + 12 * p + 7 = 420 * 0 + 11 + 12 * p by omega]
  exact (H.1.1.2 p hp).2.2
theorem pm_zL (H : ra_m A h) {p : Nat} (hp : p < sp_np (sa_C A)) : mh_I h 353 (4 + 12 * p + 0) = nI (sp_nl (sa_C A) p) := by
  rw [show 4 + 12 * p + 0 = 420 * 0 + 4 + 12 * p by omega]
  exact (H.1.1.2 p hp).1

theorem op_minimumStock (x : Int32) : op_run (lc_1 po_IO) (gX10_minimumStock x) (gX11_minimumStock x) := by
  intro A ok
  have h8 := ok.1.1.1
  rcases po_cs x (n := sp_np (sa_C A)) (by omega) with ⟨p, hp, rfl⟩ | hx
  · refine op_q ok (v := nI (sp_mn (sa_C A) p)) (fun h H => ⟨h, ?_, po_fr_refl h⟩) (fun h H => ?_)
    · unfold gX10_minimumStock
      rw [pc_ckP H ok hp, Option.bind_some]
      dsimp only
      rw [pc_min H ok hp, Option.bind_some]
    · unfold gX11_minimumStock
      rw [pm_pf (x := 7) (w := 7) H ok hp rfl (by decide), Option.bind_some]
      rw [pm_zM H hp]
  · exact op_no ok (t := 1) (v := 0) lc_1a (by decide) (fun h H => by
      unfold gX10_minimumStock
      rw [pc_ckPn H hx]
      rfl) (fun h H => by
      unfold gX11_minimumStock
      rw [pm_pfn H ok hx, Option.bind_some])
theorem op_onHand (x : Int32) : op_run (lc_1 po_IO) (gX10_onHand x) (gX11_onHand x) := by
  intro A ok
  have h8 := ok.1.1.1
  rcases po_cs x (n := sp_np (sa_C A)) (by omega) with ⟨p, hp, rfl⟩ | hx
  · refine op_q ok (v := nI (sp_stock (sa_S A) p)) (fun h H => ⟨h, ?_, po_fr_refl h⟩) (fun h H => ?_)
    · unfold gX10_onHand
      rw [pc_ckP H ok hp, Option.bind_some]
      dsimp only
      rw [pc_units po_k21 H.1.2 ok.1.2 (by omega), Option.bind_some]
    · unfold gX11_onHand
      rw [pm_isP H ok hp, Option.bind_some]
      dsimp only [mm_jn]
      rw [if_pos rfl, po_fails_0, Option.bind_some, if_neg Bool.false_ne_true]
      have H9 := ra_m_9 (v := 0) H ok
      rw [pm_stock H9.1.2 ok.1.2 (by omega), Option.bind_some]
  · exact op_no ok (t := 1) (v := 0) lc_1a (by decide) (fun h H => by
      unfold gX10_onHand
      rw [pc_ckPn H hx]
      rfl) (fun h H => by
      unfold gX11_onHand
      rw [pm_isPn H ok hx, Option.bind_some]
      dsimp only [mm_jn]
      rw [if_neg (by decide), po_fails_1, Option.bind_some, if_pos rfl])
theorem op_reserved (x : Int32) : op_run (lc_1 po_IO) (gX10_reserved x) (gX11_reserved x) := by
  intro A ok
  have h8 := ok.1.1.1
  rcases po_cs x (n := sp_np (sa_C A)) (by omega) with ⟨p, hp, rfl⟩ | hx
  · refine op_q ok (v := nI (sp_resv (sa_S A) p)) (fun h H => ⟨h, ?_, po_fr_refl h⟩) (fun h H => ?_)
    · unfold gX10_reserved
      rw [pc_ckP H ok hp, Option.bind_some]
      dsimp only
      rw [pc_resv po_k21 H.1.2 ok.1.2 (by omega), Option.bind_some]
    · unfold gX11_reserved
      rw [pm_isP H ok hp, Option.bind_some]
      dsimp only [mm_jn]
      rw [if_pos rfl, po_fails_0, Option.bind_some, if_neg Bool.false_ne_true]
      have H9 := ra_m_9 (v := 0) H ok
      rw [pm_resv H9.1.2 ok.1.2 (by omega)]
  · exact op_no ok (t := 1) (v := 0) lc_1a (by decide) (fun h H => by
      unfold gX10_reserved
      rw [pc_ckPn H hx]
      rfl) (fun h H => by
      unfold gX11_reserved
      rw [pm_isPn H ok hx, Option.bind_some]
      dsimp only [mm_jn]
      rw [if_neg (by decide), po_fails_1, Option.bind_some, if_pos rfl])
theorem op_expired (x : Int32) : op_run (lc_1 po_IO) (gX10_expired x) (gX11_expired x) := by
  intro A ok
  have h8 := ok.1.1.1
  rcases po_cs x (n := sp_np (sa_C A)) (by omega) with ⟨p, hp, rfl⟩ | hx
  · refine op_q ok (v := nI (sp_btw (sa_S A) p 0 (sp_dy (sa_S A)))) (fun h H => ⟨h, ?_, po_fr_refl h⟩) (fun h H => ?_)
    · unfold gX10_expired
      rw [pc_ckP H ok hp, Option.bind_some]
      dsimp only
      have hdy := ok.1.2.1.1
      rw [H.1.2.1.1, show (0 : Int32) = nI 0 from rfl, pc_btw po_k21 H.1.2 ok.1.2 (d := 0) (e := sp_dy (sa_S A)) (by omega) (by decide) (fun z hz => ?_), Option.bind_some]
      cases hd : sp_dy (sa_S A) with
      | zero => exact ⟨fun _ => Nat.zero_le _, fun _ => Int32.lt_of_lt_of_le (show nI 0 - 1 < 0 by decide) (nI_pos' (by omega))⟩
      | succ m =>
        rw [nI_pred, nI_ltI (by omega) (by omega)]
        omega
    · unfold gX11_expired
      rw [pm_isP H ok hp, Option.bind_some]
      dsimp only [mm_jn]
      rw [if_pos rfl, po_fails_0, Option.bind_some, if_neg Bool.false_ne_true]
      have H9 := ra_m_9 (v := 0) H ok
      rw [pm_expd H9.1.2 ok.1.2 (by omega)]
  · exact op_no ok (t := 1) (v := 0) lc_1a (by decide) (fun h H => by
      unfold gX10_expired
      rw [pc_ckPn H hx]
      rfl) (fun h H => by
      unfold gX11_expired
      rw [pm_isPn H ok hx, Option.bind_some]
      dsimp only [mm_jn]
      rw [if_neg (by decide), po_fails_1, Option.bind_some, if_pos rfl])
theorem op_stockValue (x : Int32) : op_run (lc_1 po_IO) (gX10_stockValue x) (gX11_stockValue x) := by
  intro A ok
  have h8 := ok.1.1.1
  rcases po_cs x (n := sp_np (sa_C A)) (by omega) with ⟨p, hp, rfl⟩ | hx
  · refine op_q ok (v := nI (sp_worth (sa_S A) p)) (fun h H => ⟨h, ?_, po_fr_refl h⟩) (fun h H => ?_)
    · unfold gX10_stockValue
      rw [pc_ckP H ok hp, Option.bind_some]
      dsimp only
      rw [pc_worth po_k21 H.1.2 ok.1.2 (by omega), Option.bind_some]
    · unfold gX11_stockValue
      rw [pm_isP H ok hp, Option.bind_some]
      dsimp only [mm_jn]
      rw [if_pos rfl, po_fails_0, Option.bind_some, if_neg Bool.false_ne_true]
      have H9 := ra_m_9 (v := 0) H ok
      rw [pm_worth H9.1.2 ok.1.2 (by omega), Option.bind_some]
  · exact op_no ok (t := 1) (v := 0) lc_1a (by decide) (fun h H => by
      unfold gX10_stockValue
      rw [pc_ckPn H hx]
      rfl) (fun h H => by
      unfold gX11_stockValue
      rw [pm_isPn H ok hx, Option.bind_some]
      dsimp only [mm_jn]
      rw [if_neg (by decide), po_fails_1, Option.bind_some, if_pos rfl])
theorem op_productOf (x : Int32) : op_run (lc_1 po_IO) (gX10_productOf x) (gX11_productOf x) := by
  intro A ok
  have h8 := ok.1.2.1.2.1
  rcases po_cs x (n := sp_nb (sa_S A)) (by omega) with ⟨p, hp, rfl⟩ | hx
  · refine op_q ok (v := nI (sp_b (sa_S A) p 0)) (fun h H => ⟨h, ?_, po_fr_refl h⟩) (fun h H => ?_)
    · unfold gX10_productOf
      rw [pc_ckB H ok hp, Option.bind_some]
      dsimp only
      rw [show gX4_get 22 (nI p) h = some (nI (sp_b (sa_S A) p 0)) from pc_g1 po_k21 H.1.2 ok.1.2 hp, Option.bind_some]
    · unfold gX11_productOf
      rw [pm_bf (x := 0) (w := 0) H ok hp rfl (by decide), Option.bind_some]
      skip
  · exact op_no ok (t := 1) (v := 0) lc_1a (by decide) (fun h H => by
      unfold gX10_productOf
      rw [pc_ckBn H hx]
      rfl) (fun h H => by
      unfold gX11_productOf
      rw [pm_bfn H ok hx, Option.bind_some])
theorem op_quantity (x : Int32) : op_run (lc_1 po_IO) (gX10_quantity x) (gX11_quantity x) := by
  intro A ok
  have h8 := ok.1.2.1.2.1
  rcases po_cs x (n := sp_nb (sa_S A)) (by omega) with ⟨p, hp, rfl⟩ | hx
  · refine op_q ok (v := nI (sp_b (sa_S A) p 1)) (fun h H => ⟨h, ?_, po_fr_refl h⟩) (fun h H => ?_)
    · unfold gX10_quantity
      rw [pc_ckB H ok hp, Option.bind_some]
      dsimp only
      rw [show gX4_get 24 (nI p) h = some (nI (sp_b (sa_S A) p 1)) from pc_g3 po_k21 H.1.2 ok.1.2 hp, Option.bind_some]
    · unfold gX11_quantity
      rw [pm_bf (x := 1) (w := 1) H ok hp rfl (by decide), Option.bind_some]
      skip
  · exact op_no ok (t := 1) (v := 0) lc_1a (by decide) (fun h H => by
      unfold gX10_quantity
      rw [pc_ckBn H hx]
      rfl) (fun h H => by
      unfold gX11_quantity
      rw [pm_bfn H ok hx, Option.bind_some])
theorem op_expiryDay (x : Int32) : op_run (lc_1 po_IO) (gX10_expiryDay x) (gX11_expiryDay x) := by
  intro A ok
  have h8 := ok.1.2.1.2.1
  rcases po_cs x (n := sp_nb (sa_S A)) (by omega) with ⟨p, hp, rfl⟩ | hx
  · refine op_q ok (v := nI (sp_b (sa_S A) p 2)) (fun h H => ⟨h, ?_, po_fr_refl h⟩) (fun h H => ?_)
    · unfold gX10_expiryDay
      rw [pc_ckB H ok hp, Option.bind_some]
      dsimp only
      rw [show gX4_get 28 (nI p) h = some (nI (sp_b (sa_S A) p 2)) from pc_g7 po_k21 H.1.2 ok.1.2 hp, Option.bind_some]
    · unfold gX11_expiryDay
      rw [pm_bf (x := 2) (w := 2) H ok hp rfl (by decide), Option.bind_some]
      skip
  · exact op_no ok (t := 1) (v := 0) lc_1a (by decide) (fun h H => by
      unfold gX10_expiryDay
      rw [pc_ckBn H hx]
      rfl) (fun h H => by
      unfold gX11_expiryDay
      rw [pm_bfn H ok hx, Option.bind_some])
theorem op_unitCost (x : Int32) : op_run (lc_1 po_IO) (gX10_unitCost x) (gX11_unitCost x) := by
  intro A ok
  have h8 := ok.1.2.1.2.1
  rcases po_cs x (n := sp_nb (sa_S A)) (by omega) with ⟨p, hp, rfl⟩ | hx
  · refine op_q ok (v := nI (sp_b (sa_S A) p 3)) (fun h H => ⟨h, ?_, po_fr_refl h⟩) (fun h H => ?_)
    · unfold gX10_unitCost
      rw [pc_ckB H ok hp, Option.bind_some]
      dsimp only
      rw [show gX4_get 30 (nI p) h = some (nI (sp_b (sa_S A) p 3)) from pc_g9 po_k21 H.1.2 ok.1.2 hp, Option.bind_some]
    · unfold gX11_unitCost
      rw [pm_bf (x := 3) (w := 3) H ok hp rfl (by decide), Option.bind_some]
      skip
  · exact op_no ok (t := 1) (v := 0) lc_1a (by decide) (fun h H => by
      unfold gX10_unitCost
      rw [pc_ckBn H hx]
      rfl) (fun h H => by
      unfold gX11_unitCost
      rw [pm_bfn H ok hx, Option.bind_some])
theorem op_reservedOf (x : Int32) : op_run (lc_1 po_IO) (gX10_reservedOf x) (gX11_reservedOf x) := by
  intro A ok
  have h8 := ok.1.2.1.2.1
  rcases po_cs x (n := sp_nb (sa_S A)) (by omega) with ⟨p, hp, rfl⟩ | hx
  · refine op_q ok (v := nI (sp_held (sa_S A) p)) (fun h H => ⟨h, ?_, po_fr_refl h⟩) (fun h H => ?_)
    · unfold gX10_reservedOf
      rw [pc_ckB H ok hp, Option.bind_some]
      dsimp only
      rw [show gX4_get 26 (nI p) h = some (nI (sp_held (sa_S A) p)) from pc_g5 po_k21 H.1.2 ok.1.2 hp, Option.bind_some]
    · unfold gX11_reservedOf
      rw [pm_isB H ok hp, Option.bind_some]
      dsimp only [mm_jn]
      rw [if_pos rfl, po_fails_0, Option.bind_some, if_neg Bool.false_ne_true]
      have H9 := ra_m_9 (v := 0) H ok
      rw [pm_held H9.1.2 ok.1.2 (by omega), Option.bind_some]
  · exact op_no ok (t := 1) (v := 0) lc_1a (by decide) (fun h H => by
      unfold gX10_reservedOf
      rw [pc_ckBn H hx]
      rfl) (fun h H => by
      unfold gX11_reservedOf
      rw [pm_isBn H ok hx, Option.bind_some]
      dsimp only [mm_jn]
      rw [if_neg (by decide), po_fails_1, Option.bind_some, if_pos rfl])
theorem op_reservedProduct (x : Int32) : op_run (lc_1 po_IO) (gX10_reservedProduct x) (gX11_reservedProduct x) := by
  intro A ok
  have h8 := ok.1.2.1.2.2
  rcases po_cs x (n := sp_nr (sa_S A)) (by omega) with ⟨p, hp, rfl⟩ | hx
  · refine op_q ok (v := nI (sp_r (sa_S A) p 0)) (fun h H => ⟨h, ?_, po_fr_refl h⟩) (fun h H => ?_)
    · unfold gX10_reservedProduct
      rw [pc_ckR H ok hp, Option.bind_some]
      dsimp only
      rw [show gX4_get 32 (nI p) h = some (nI (sp_r (sa_S A) p 0)) from pc_g11 po_k21 H.1.2 ok.1.2 hp, Option.bind_some]
    · unfold gX11_reservedProduct
      rw [pm_rf (x := 0) (w := 0) H ok hp rfl (by decide), Option.bind_some]
      skip
  · exact op_no ok (t := 1) (v := 0) lc_1a (by decide) (fun h H => by
      unfold gX10_reservedProduct
      rw [pc_ckRn H hx]
      rfl) (fun h H => by
      unfold gX11_reservedProduct
      rw [pm_rfn H ok hx, Option.bind_some])
theorem op_reservedQuantity (x : Int32) : op_run (lc_1 po_IO) (gX10_reservedQuantity x) (gX11_reservedQuantity x) := by
  intro A ok
  have h8 := ok.1.2.1.2.2
  rcases po_cs x (n := sp_nr (sa_S A)) (by omega) with ⟨p, hp, rfl⟩ | hx
  · refine op_q ok (v := nI (sp_r (sa_S A) p 1)) (fun h H => ⟨h, ?_, po_fr_refl h⟩) (fun h H => ?_)
    · unfold gX10_reservedQuantity
      rw [pc_ckR H ok hp, Option.bind_some]
      dsimp only
      rw [show gX4_get 34 (nI p) h = some (nI (sp_r (sa_S A) p 1)) from pc_g13 po_k21 H.1.2 ok.1.2 hp, Option.bind_some]
    · unfold gX11_reservedQuantity
      rw [pm_rf (x := 1) (w := 1) H ok hp rfl (by decide), Option.bind_some]
      skip
  · exact op_no ok (t := 1) (v := 0) lc_1a (by decide) (fun h H => by
      unfold gX10_reservedQuantity
      rw [pc_ckRn H hx]
      rfl) (fun h H => by
      unfold gX11_reservedQuantity
      rw [pm_rfn H ok hx, Option.bind_some])
theorem op_missing (x : Int32) : op_run (lc_1 po_IO) (gX10_missing x) (gX11_missing x) := by
  intro A ok
  have h8 := ok.1.2.1.2.2
  rcases po_cs x (n := sp_nr (sa_S A)) (by omega) with ⟨p, hp, rfl⟩ | hx
  · refine op_q ok (v := nI (sp_lack (sa_S A) p)) (fun h H => ⟨h, ?_, po_fr_refl h⟩) (fun h H => ?_)
    · unfold gX10_missing
      rw [pc_ckR H ok hp, Option.bind_some]
      dsimp only
      rw [pc_missing po_k21 H.1.2 ok.1.2 hp, Option.bind_some]
    · unfold gX11_missing
      rw [pm_isR H ok hp, Option.bind_some]
      dsimp only [mm_jn]
      rw [if_pos rfl, po_fails_0, Option.bind_some, if_neg Bool.false_ne_true]
      have H9 := ra_m_9 (v := 0) H ok
      rw [pm_lack H9.1.2 ok.1.2 hp, Option.bind_some]
  · exact op_no ok (t := 1) (v := 0) lc_1a (by decide) (fun h H => by
      unfold gX10_missing
      rw [pc_ckRn H hx]
      rfl) (fun h H => by
      unfold gX11_missing
      rw [pm_isRn H ok hx, Option.bind_some]
      dsimp only [mm_jn]
      rw [if_neg (by decide), po_fails_1, Option.bind_some, if_pos rfl])
theorem op_whyNotShipped (x : Int32) : op_run (lc_1 po_IO) (gX10_whyNotShipped x) (gX11_whyNotShipped x) := by
  intro A ok
  have h8 := ok.1.2.1.2.2
  rcases po_cs x (n := sp_nr (sa_S A)) (by omega) with ⟨p, hp, rfl⟩ | hx
  · refine op_q ok (v := nI (sp_why (sa_S A) p)) (fun h H => ⟨h, ?_, po_fr_refl h⟩) (fun h H => ?_)
    · unfold gX10_whyNotShipped
      rw [pc_ckR H ok hp, Option.bind_some]
      dsimp only
      rw [pc_why po_k21 H.1.2 ok.1.2 hp, Option.bind_some]
    · unfold gX11_whyNotShipped
      rw [pm_isR H ok hp, Option.bind_some]
      dsimp only [mm_jn]
      rw [if_pos rfl, po_fails_0, Option.bind_some, if_neg Bool.false_ne_true]
      have H9 := ra_m_9 (v := 0) H ok
      rw [pm_why H9.1.2 ok.1.2 hp, Option.bind_some]
  · exact op_no ok (t := 1) (v := 0) lc_1a (by decide) (fun h H => by
      unfold gX10_whyNotShipped
      rw [pc_ckRn H hx]
      rfl) (fun h H => by
      unfold gX11_whyNotShipped
      rw [pm_isRn H ok hx, Option.bind_some]
      dsimp only [mm_jn]
      rw [if_neg (by decide), po_fails_1, Option.bind_some, if_pos rfl])
theorem op_receivedUnits (x : Int32) : op_run (lc_1 po_IO) (gX10_receivedUnits x) (gX11_receivedUnits x) := by
  intro A ok
  have h8 := ok.1.1.1
  rcases po_cs x (n := sp_np (sa_C A)) (by omega) with ⟨p, hp, rfl⟩ | hx
  · refine op_q ok (v := sp_ac (sa_S A) p 0) (fun h H => ⟨h, ?_, po_fr_refl h⟩) (fun h H => ?_)
    · unfold gX10_receivedUnits
      rw [pc_ckP H ok hp, Option.bind_some]
      dsimp only
      rw [show gX4_get 42 (nI p) h = some (mh_I h 43 p) from pc_acc (k := 21) H (show p < 8 by omega) (by decide), Option.bind_some]
      exact congrArg (fun z => some (Sum.inl z, h)) (H.1.2.2.2.2 p (by omega)).1
    · unfold gX11_receivedUnits
      rw [pm_pf (x := 8) (w := 8) H ok hp rfl (by decide), Option.bind_some]
      rw [show 8 = 8 + 0 from rfl, pm_zP H (show p < 8 by omega) (by decide)]
  · exact op_no ok (t := 1) (v := 0) lc_1a (by decide) (fun h H => by
      unfold gX10_receivedUnits
      rw [pc_ckPn H hx]
      rfl) (fun h H => by
      unfold gX11_receivedUnits
      rw [pm_pfn H ok hx, Option.bind_some])
theorem op_deliveredUnits (x : Int32) : op_run (lc_1 po_IO) (gX10_deliveredUnits x) (gX11_deliveredUnits x) := by
  intro A ok
  have h8 := ok.1.1.1
  rcases po_cs x (n := sp_np (sa_C A)) (by omega) with ⟨p, hp, rfl⟩ | hx
  · refine op_q ok (v := sp_ac (sa_S A) p 1) (fun h H => ⟨h, ?_, po_fr_refl h⟩) (fun h H => ?_)
    · unfold gX10_deliveredUnits
      rw [pc_ckP H ok hp, Option.bind_some]
      dsimp only
      rw [show gX4_get 44 (nI p) h = some (mh_I h 45 p) from pc_acc (k := 23) H (show p < 8 by omega) (by decide), Option.bind_some, show gX4_get 46 (nI p) h = some (mh_I h 47 p) from pc_acc (k := 25) H (show p < 8 by omega) (by decide), Option.bind_some]
      exact congrArg (fun z => some (Sum.inl z, h)) (H.1.2.2.2.2 p (by omega)).2.1
    · unfold gX11_deliveredUnits
      rw [pm_pf (x := 9) (w := 9) H ok hp rfl (by decide), Option.bind_some]
      rw [show 9 = 8 + 1 from rfl, pm_zP H (show p < 8 by omega) (by decide)]
  · exact op_no ok (t := 1) (v := 0) lc_1a (by decide) (fun h H => by
      unfold gX10_deliveredUnits
      rw [pc_ckPn H hx]
      rfl) (fun h H => by
      unfold gX11_deliveredUnits
      rw [pm_pfn H ok hx, Option.bind_some])
theorem op_writtenOffUnits (x : Int32) : op_run (lc_1 po_IO) (gX10_writtenOffUnits x) (gX11_writtenOffUnits x) := by
  intro A ok
  have h8 := ok.1.1.1
  rcases po_cs x (n := sp_np (sa_C A)) (by omega) with ⟨p, hp, rfl⟩ | hx
  · refine op_q ok (v := sp_ac (sa_S A) p 2) (fun h H => ⟨h, ?_, po_fr_refl h⟩) (fun h H => ?_)
    · unfold gX10_writtenOffUnits
      rw [pc_ckP H ok hp, Option.bind_some]
      dsimp only
      rw [show gX4_get 48 (nI p) h = some (mh_I h 49 p) from pc_acc (k := 27) H (show p < 8 by omega) (by decide), Option.bind_some]
      exact congrArg (fun z => some (Sum.inl z, h)) (H.1.2.2.2.2 p (by omega)).2.2.1
    · unfold gX11_writtenOffUnits
      rw [pm_pf (x := 10) (w := 10) H ok hp rfl (by decide), Option.bind_some]
      rw [show 10 = 8 + 2 from rfl, pm_zP H (show p < 8 by omega) (by decide)]
  · exact op_no ok (t := 1) (v := 0) lc_1a (by decide) (fun h H => by
      unfold gX10_writtenOffUnits
      rw [pc_ckPn H hx]
      rfl) (fun h H => by
      unfold gX11_writtenOffUnits
      rw [pm_pfn H ok hx, Option.bind_some])
theorem op_adjustment (x : Int32) : op_run (lc_1 po_IO) (gX10_adjustment x) (gX11_adjustment x) := by
  intro A ok
  have h8 := ok.1.1.1
  rcases po_cs x (n := sp_np (sa_C A)) (by omega) with ⟨p, hp, rfl⟩ | hx
  · refine op_q ok (v := sp_ac (sa_S A) p 3) (fun h H => ⟨h, ?_, po_fr_refl h⟩) (fun h H => ?_)
    · unfold gX10_adjustment
      rw [pc_ckP H ok hp, Option.bind_some]
      dsimp only
      rw [show gX4_get 50 (nI p) h = some (mh_I h 51 p) from pc_acc (k := 29) H (show p < 8 by omega) (by decide), Option.bind_some]
      exact congrArg (fun z => some (Sum.inl z, h)) (H.1.2.2.2.2 p (by omega)).2.2.2
    · unfold gX11_adjustment
      rw [pm_pf (x := 11) (w := 11) H ok hp rfl (by decide), Option.bind_some]
      rw [show 11 = 8 + 3 from rfl, pm_zP H (show p < 8 by omega) (by decide)]
  · exact op_no ok (t := 1) (v := 0) lc_1a (by decide) (fun h H => by
      unfold gX10_adjustment
      rw [pc_ckPn H hx]
      rfl) (fun h H => by
      unfold gX11_adjustment
      rw [pm_pfn H ok hx, Option.bind_some])
end PPY

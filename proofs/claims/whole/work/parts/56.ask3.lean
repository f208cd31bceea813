section PQB
/-! questions that the reference answers aside; plain questions -/
variable {A : sp_A} {S : sp_S} {h : mm_H}
theorem op_q2 {β : Type} {c : String → Option Int32} {G : mm_H → Option ((β ⊕ String) × mm_H)} {M : mm_H → Option (β × mm_H)} (ok : sa_ok A) {v : β} (hG : ∀ h, ra_c A h → ∃ h1, G h = some (.inl v, h1) ∧ po_fr po_od h h1) (hM : ∀ h, ra_m A h → ∃ h2, M h = some (v, h2) ∧ mh_I h2 352 9 = 0 ∧ ra_m A h2 ∧ po_fr po_fm h h2) : op_at c G M A :=
  ⟨A, ok, Or.inl ⟨v, fun h H => by
    obtain ⟨h1, e1, f1⟩ := hG h H
    exact ⟨h1, e1, ra_c_fr H f1 (fun q hq => po_od_no (Or.inl hq)), po_fr_mono f1 (fun q hq => po_od_no (Or.inr (po_fc_no hq)))⟩, hM⟩⟩
theorem po_fm_m {a b : mm_H} (H : po_fr po_m353 a b) : po_fr po_fm a b := po_fr_mono H (fun z hz => by
  have hz' : ¬ (352 ≤ z ∧ z < 358) := of_decide_eq_false hz
  show (z == 353) = false
  simp
  omega)
theorem pm_aside (H : ra_m A h) (ok : sa_ok A) : ∃ a, gX11_copyBlock 0 9 h = some a ∧ ra_m A a ∧ po_fr po_m353 h a ∧ ∀ b, po_fx a b → ∃ c, gX11_copyBlock 9 0 b = some c ∧ ra_m A c ∧ po_fr po_m353 h c := by
  obtain ⟨a, e1, e2, e3, e4⟩ := pm_copy (f := 0) (t := 9) (h := h) (by decide) (by decide) (by decide)
  have hfr : ∀ {x : mm_H}, po_fr po_m353 h x → (∀ k, k < 3780 → mh_I x 353 k = mh_I h 353 k) → ra_m A x := fun {x} f1 f2 => ra_m_fr H ok f2 (fun k _ => f1.1 352 (by decide) k) (fun k => f1.1 354 (by decide) k) (fun k => f1.1 355 (by decide) k) (fun k => f1.1 356 (by decide) k)
  refine ⟨a, e1, hfr e4 (fun k hk => e3 k (by omega)), e4, fun b hb => ?_⟩
  obtain ⟨c, g1, g2, g3, g4⟩ := pm_copy (f := 9) (t := 0) (h := b) (by decide) (by decide) (by decide)
  have f5 := po_fr_trans (po_fr_trans e4 hb.1) g4
  have hkp : ∀ k, 420 ≤ k → mh_I b 353 k = mh_I a 353 k := fun k hk => hb.2 k (decide_eq_true (Or.inl hk))
  refine ⟨c, g1, hfr f5 (fun k hk => ?_), f5⟩
  rcases Nat.lt_or_ge k 420 with h1 | h1
  · have := g2 k h1
    rw [show 420 * 0 + k = k by omega] at this
    rw [this, hkp _ (by omega), e2 k h1]
    exact congrArg _ (by omega)
  · rw [g3 k (by omega), hkp k h1, e3 k (by omega)]
theorem op_costOfIssue (x y : Int32) : op_run (lc_2 po_IO po_IA) (gX10_costOfIssue x y) (gX11_costOfIssue x y) := by
  intro A ok
  have h8 := ok.1.1.1
  have hdy := ok.1.2.1.1
  rcases po_cs x (n := sp_np (sa_C A)) (by omega) with ⟨p, hp, rfl⟩ | hx
  · rcases po_cr y (a := 1) (b := 9999) (by decide) (by decide) with ⟨q, hq0, hq, rfl⟩ | hy
    · have hav := sp_av_le ok.1.2 p (sp_dy (sa_S A))
      by_cases hc : q ≤ sp_av (sa_S A) p (sp_dy (sa_S A))
      · refine op_q2 ok (v := nI (sp_icost (sa_S A) p q)) (fun h H => ?_) (fun h H => ?_)
        · unfold gX10_costOfIssue
          rw [pc_ckP H ok hp, Option.bind_some]
          dsimp only
          rw [pc_ckI (y := 1) (z := 9999) hq0 hq (by decide) rfl rfl rfl, Option.bind_some]
          dsimp only
          obtain ⟨h1, e1, e2, e3⟩ := pc_issueOrder po_k21 H.1.2 ok.1.2 (p := p) (d := sp_dy (sa_S A)) (by omega) (by omega)
          have H1 := ra_c_fr H e3 (fun q hq => po_od_no (Or.inl hq))
          rw [H.1.2.1.1, pc_avail po_k21 H.1.2 ok.1.2 (by omega) (by omega), Option.bind_some, if_neg (nI_nlt hc (by omega)), e1, Option.bind_some, pc_cost po_k21 H1.1.2 ok.1.2 e2 (fun z hz => (sp_ordk_mem.mp hz).1) (Nat.le_trans sp_ordk_len ok.1.2.1.2.1) (by omega), Option.bind_some]
          exact ⟨h1, rfl, e3⟩
        · unfold gX11_costOfIssue
          have H9 := ra_m_9 (v := 0) H ok
          rw [pm_isP H ok hp, Option.bind_some]
          dsimp only [mm_jn]
          rw [if_pos rfl, po_in_in (y := 1) (z := 9999) hq0 hq (by decide) rfl rfl rfl, Option.bind_some, if_pos rfl, po_fails_0, Option.bind_some, if_neg Bool.false_ne_true, pm_canIssue H9.1.2 ok.1.2 (by omega) (by omega), Option.bind_some, if_pos (decide_eq_true hc)]
          obtain ⟨a, e1, e2, e3, e4⟩ := pm_aside H9 ok
          obtain ⟨b, g1, g2, g3⟩ := pm_issue e2.1.2 ok.1.2 (p := p) (q := q) (by omega) (by omega) hc
          obtain ⟨c, k1, k2, k3⟩ := e4 b g3
          rw [e1, Option.bind_some, if_pos po_m0, pm_dy e2.1.2, g1, Option.bind_some, k1, Option.bind_some]
          exact ⟨c, rfl, by rw [k3.1 352 (by decide), po_I1], k2, po_fr_trans po_fm9 (po_fm_m k3)⟩
      · refine op_q ok (v := -1) (fun h H => ⟨h, ?_, po_fr_refl h⟩) (fun h H => ?_)
        · unfold gX10_costOfIssue
          rw [pc_ckP H ok hp, Option.bind_some]
          dsimp only
          rw [pc_ckI (y := 1) (z := 9999) hq0 hq (by decide) rfl rfl rfl, Option.bind_some]
          dsimp only
          rw [H.1.2.1.1, pc_avail po_k21 H.1.2 ok.1.2 (by omega) (by omega), Option.bind_some, if_pos (nI_lt (by omega) (by omega))]
        · unfold gX11_costOfIssue
          have H9 := ra_m_9 (v := 0) H ok
          rw [pm_isP H ok hp, Option.bind_some]
          dsimp only [mm_jn]
          rw [if_pos rfl, po_in_in (y := 1) (z := 9999) hq0 hq (by decide) rfl rfl rfl, Option.bind_some, if_pos rfl, po_fails_0, Option.bind_some, if_neg Bool.false_ne_true, pm_canIssue H9.1.2 ok.1.2 (by omega) (by omega), Option.bind_some, if_neg (by rw [decide_eq_false hc]; decide)]
    · refine op_no ok (t := 2) (v := 0) lc_2b (by decide) (fun h H => ?_) (fun h H => ?_)
      · unfold gX10_costOfIssue
        rw [pc_ckP H ok hp, Option.bind_some]
        dsimp only
        rw [pc_ckIn (y := 1) (z := 9999) hy rfl rfl]
        rfl
      · unfold gX11_costOfIssue
        rw [pm_isP H ok hp, Option.bind_some]
        dsimp only [mm_jn]
        rw [if_pos rfl, po_in_no' (y := 1) (z := 9999) hy rfl rfl, Option.bind_some, if_neg (by decide), po_fails_2, Option.bind_some, if_pos rfl]
  · refine op_no ok (t := 1) (v := 0) lc_2a (by decide) (fun h H => ?_) (fun h H => ?_)
    · unfold gX10_costOfIssue
      rw [pc_ckPn H hx]
      rfl
    · unfold gX11_costOfIssue
      rw [pm_isPn H ok hx, Option.bind_some]
      dsimp only [mm_jn]
      rw [if_neg (by decide)]
      rcases po_cr y (a := 1) (b := 9999) (by decide) (by decide) with ⟨d, hd0, hd, rfl⟩ | hy
      · rw [po_in_in (y := 1) (z := 9999) hd0 hd (by decide) rfl rfl rfl, Option.bind_some, if_pos rfl, po_fails_1, Option.bind_some, if_pos rfl]
      · rw [po_in_no' (y := 1) (z := 9999) hy rfl rfl, Option.bind_some, if_neg (by decide), po_fails_1, Option.bind_some, if_pos rfl]
/-! plain questions -/
theorem op_errorCode : op_pl gX10_errorCode gX11_errorCode := fun A ok => ⟨nI (sa_ec A), fun h H => congrArg some H.2.2.2.1, fun h H => by
  unfold gX11_errorCode
  rw [Option.bind_some, po_I4 (by decide), H.2.2.2.1]⟩
theorem op_errorPosition : op_pl gX10_errorPosition gX11_errorPosition := fun A ok => ⟨sa_ep A, fun h H => congrArg some H.2.2.2.2, fun h H => by
  unfold gX11_errorPosition
  rw [Option.bind_some, po_I4 (by decide), H.2.2.2.2]⟩
theorem op_productCount : op_pl gX10_productCount gX11_productCount := fun A ok => ⟨nI (sp_np (sa_C A)), fun h H => congrArg some H.1.1.1, fun h H => by
  unfold gX11_productCount gX11_plain
  have e : mh_I h 353 (Int32.toNatClampNeg 1) = nI (sp_np (sa_C A)) := H.1.1.1
  rw [if_pos po_m1, e, Option.bind_some, Option.bind_some]⟩
theorem op_day : op_pl gX10_day gX11_day := fun A ok => ⟨nI (sp_dy (sa_S A)), fun h H => congrArg some H.1.2.1.1, fun h H => by
  unfold gX11_day gX11_plain
  rw [if_pos po_m0, pm_dy H.1.2, Option.bind_some, Option.bind_some]⟩
theorem op_batchCount : op_pl gX10_batchCount gX11_batchCount := fun A ok => ⟨nI (sp_nb (sa_S A)), fun h H => congrArg some H.1.2.1.2.1, fun h H => by
  unfold gX11_batchCount gX11_plain
  rw [if_pos po_m2, pm_nb H.1.2, Option.bind_some, Option.bind_some]⟩
theorem op_reservationCount : op_pl gX10_reservationCount gX11_reservationCount := fun A ok => ⟨nI (sp_nr (sa_S A)), fun h H => congrArg some H.1.2.1.2.2, fun h H => by
  unfold gX11_reservationCount gX11_plain
  rw [if_pos po_m3, pm_nr H.1.2, Option.bind_some, Option.bind_some]⟩
theorem pm_np (H : ra_m A h) : mh_I h 353 (Int32.toNatClampNeg 1) = nI (sp_np (sa_C A)) := H.1.1.1
theorem op_totalValue : op_pl gX10_totalValue gX11_totalValue := fun A ok => by
  have h8 := ok.1.1.1
  refine ⟨nI (sp_sum (sp_worth (sa_S A)) (sp_np (sa_C A))), fun h H => ?_, fun h H => ?_⟩
  · refine po_loopF (fun n i s => gX10_totalValue_L4 h n (nI s) (nI i)) (sp_np (sa_C A)) (sp_sum (sp_worth (sa_S A))) _ (fun n => ?_) (fun n i hi => ?_) mm_F 0 (Nat.zero_le _) (Nat.lt_of_le_of_lt (Nat.sub_le _ _) (Nat.lt_of_le_of_lt h8 (by decide)))
    · try dsimp only
      rw [gX10_totalValue_L4, H.1.1.1, if_neg (nI_nlt (Nat.le_refl _) (by omega))]
    · try dsimp only
      rw [gX10_totalValue_L4, H.1.1.1, if_pos (nI_lt hi (by omega)), pc_worth po_k21 H.1.2 ok.1.2 (by omega), Option.bind_some, Option.bind_some, Option.bind_some, nI_add, nI_1]
      rfl
  · have H9 := ra_m_9 (v := 0) H ok
    unfold gX11_totalValue
    rw [Option.bind_some]
    refine po_loopF (fun n i s => gX11_totalValue_L9 (ms_I h 352 9 0) n (nI s) (nI i)) (sp_np (sa_C A)) (sp_sum (sp_worth (sa_S A))) _ (fun n => ?_) (fun n i hi => ?_) mm_F 0 (Nat.zero_le _) (Nat.lt_of_le_of_lt (Nat.sub_le _ _) (Nat.lt_of_le_of_lt h8 (by decide)))
    · try dsimp only
      rw [gX11_totalValue_L9, if_pos po_m1, pm_np H9, if_neg (nI_nlt (Nat.le_refl _) (by omega))]
    · try dsimp only
      rw [gX11_totalValue_L9, if_pos po_m1, pm_np H9, if_pos (nI_lt hi (by omega)), pm_worth H9.1.2 ok.1.2 (by omega), Option.bind_some, Option.bind_some, Option.bind_some, nI_add, nI_1]
      rfl
theorem op_reorderCount : op_pl gX10_reorderCount gX11_reorderCount := fun A ok => by
  have h8 := ok.1.1.1
  have hto : ∀ p, p < sp_np (sa_C A) → sp_to A p < 2 ^ 31 := fun p hp => by
    have hmn := (ok.1.1.2 p hp).2.1
    unfold sp_to
    omega
  refine ⟨nI (sp_sum (fun p => if 0 < sp_to A p then 1 else 0) (sp_np (sa_C A))), fun h H => ?_, fun h H => ?_⟩
  · refine po_loopF (fun n i s => gX10_reorderCount_L4 h n (nI s) (nI i)) (sp_np (sa_C A)) (sp_sum (fun p => if 0 < sp_to A p then 1 else 0)) _ (fun n => ?_) (fun n i hi => ?_) mm_F 0 (Nat.zero_le _) (Nat.lt_of_le_of_lt (Nat.sub_le _ _) (Nat.lt_of_le_of_lt h8 (by decide)))
    · try dsimp only
      rw [gX10_reorderCount_L4, H.1.1.1, if_neg (nI_nlt (Nat.le_refl _) (by omega))]
    · try dsimp only
      rw [gX10_reorderCount_L4, H.1.1.1, if_pos (nI_lt hi (by omega)), pc_toOrder H ok hi, Option.bind_some]
      simp only [mm_jn, Option.bind_some, nI_1, sp_sum]
      by_cases hc : 0 < sp_to A i
      · rw [if_pos (po_0lt hc (hto i hi)), if_pos hc]
      · rw [if_neg (po_n0lt hc), if_neg hc]
        rfl
  · have H9 := ra_m_9 (v := 0) H ok
    unfold gX11_reorderCount
    rw [Option.bind_some]
    refine po_loopF (fun n i s => gX11_reorderCount_L9 (ms_I h 352 9 0) n (nI s) (nI i)) (sp_np (sa_C A)) (sp_sum (fun p => if 0 < sp_to A p then 1 else 0)) _ (fun n => ?_) (fun n i hi => ?_) mm_F 0 (Nat.zero_le _) (Nat.lt_of_le_of_lt (Nat.sub_le _ _) (Nat.lt_of_le_of_lt h8 (by decide)))
    · try dsimp only
      rw [gX11_reorderCount_L9, if_pos po_m1, pm_np H9, if_neg (nI_nlt (Nat.le_refl _) (by omega))]
    · try dsimp only
      rw [gX11_reorderCount_L9, if_pos po_m1, pm_np H9, if_pos (nI_lt hi (by omega)), pm_toOrder H9 ok hi, Option.bind_some]
      simp only [mm_jn, Option.bind_some, nI_1, sp_sum]
      by_cases hc : 0 < sp_to A i
      · rw [if_pos (po_0lt hc (hto i hi)), if_pos hc]
      · rw [if_neg (po_n0lt hc), if_neg hc, show (0 : Int32) = nI 0 from rfl, nI_add]
theorem op_endangeredReservations : op_pl gX10_endangeredReservations gX11_endangeredReservations := fun A ok => by
  have h8 := ok.1.2.1.2.2
  refine ⟨nI (sp_sum (fun r => if sp_endg (sa_S A) r = true then 1 else 0) (sp_nr (sa_S A))), fun h H => ?_, fun h H => ?_⟩
  · refine po_loopF (fun n i s => gX10_endangeredReservations_L4 h n (nI s) (nI i)) (sp_nr (sa_S A)) (sp_sum (fun r => if sp_endg (sa_S A) r = true then 1 else 0)) _ (fun n => ?_) (fun n i hi => ?_) mm_F 0 (Nat.zero_le _) (pm_nrF ok.1.2)
    · try dsimp only
      rw [gX10_endangeredReservations_L4, H.1.2.1.2.2, if_neg (nI_nlt (Nat.le_refl _) (by omega))]
    · try dsimp only
      rw [gX10_endangeredReservations_L4, H.1.2.1.2.2, if_pos (nI_lt hi (by omega)), pc_endg po_k21 H.1.2 ok.1.2 hi, Option.bind_some]
      simp only [mm_jn, Option.bind_some, nI_1, sp_sum]
      by_cases hc : sp_endg (sa_S A) i = true
      · rw [if_pos hc, if_pos hc]
      · rw [if_neg hc, if_neg hc]
        rfl
  · have H9 := ra_m_9 (v := 0) H ok
    unfold gX11_endangeredReservations
    rw [Option.bind_some]
    refine po_loopF (fun n i s => gX11_endangeredReservations_L9 (ms_I h 352 9 0) n (nI s) (nI i)) (sp_nr (sa_S A)) (sp_sum (fun r => if sp_endg (sa_S A) r = true then 1 else 0)) _ (fun n => ?_) (fun n i hi => ?_) mm_F 0 (Nat.zero_le _) (pm_nrF ok.1.2)
    · try dsimp only
      rw [gX11_endangeredReservations_L9, if_pos po_m3, if_neg (pm_nltR H9.1.2 ok.1.2)]
    · try dsimp only
      rw [gX11_endangeredReservations_L9, if_pos po_m3, if_pos (pm_ltR H9.1.2 ok.1.2 hi), pm_endg H9.1.2 ok.1.2 hi, Option.bind_some]
      simp only [mm_jn, Option.bind_some, nI_1, sp_sum]
      by_cases hc : sp_endg (sa_S A) i = true
      · rw [if_pos hc, if_pos hc]
      · rw [if_neg hc, if_neg hc, show (0 : Int32) = nI 0 from rfl, nI_add]
theorem po_acc (a b c d : Int32) : a - (b + c) + d = a - b - c + d := by
  rw [Int32.sub_eq_add_neg, Int32.sub_eq_add_neg, Int32.sub_eq_add_neg, Int32.neg_add, Int32.sub_eq_add_neg, ← Int32.add_assoc a]
def sp_told (S : sp_S) (p : Nat) : Int32 := sp_ac S p 0 - sp_ac S p 1 - sp_ac S p 2 + sp_ac S p 3
theorem pc_told (H : ra_c A h) {p : Nat} (hp : p < 8) : gX7_unitsByAccounts 21 (nI p) h = some (sp_told (sa_S A) p) := by
  obtain ⟨a1, a2, a3, a4⟩ := H.1.2.2.2.2 p hp
  unfold gX7_unitsByAccounts sp_told
  rw [pc_acc (k := 23) H hp (by decide), Option.bind_some, pc_acc (k := 25) H hp (by decide), Option.bind_some, pc_acc (k := 27) H hp (by decide), Option.bind_some, Option.bind_some, pc_acc (k := 21) H hp (by decide), Option.bind_some, pc_acc (k := 29) H hp (by decide), Option.bind_some, ← po_acc, ← a1, ← a2, ← a3, ← a4]
theorem op_inconsistencies : op_pl gX10_inconsistencies gX11_inconsistencies := fun A ok => by
  have h8 := ok.1.1.1
  refine ⟨nI (sp_sum (fun p => if nI (sp_stock (sa_S A) p) = sp_told (sa_S A) p then 0 else 1) (sp_np (sa_C A))), fun h H => ?_, fun h H => ?_⟩
  · refine po_loopF (fun n i s => gX10_inconsistencies_L4 h n (nI s) (nI i)) (sp_np (sa_C A)) (sp_sum (fun p => if nI (sp_stock (sa_S A) p) = sp_told (sa_S A) p then 0 else 1)) _ (fun n => ?_) (fun n i hi => ?_) mm_F 0 (Nat.zero_le _) (Nat.lt_of_le_of_lt (Nat.sub_le _ _) (Nat.lt_of_le_of_lt h8 (by decide)))
    · try dsimp only
      rw [gX10_inconsistencies_L4, H.1.1.1, if_neg (nI_nlt (Nat.le_refl _) (by omega))]
      refine po_loopF (fun n i (_ : Unit) => gX10_inconsistencies_L45 h n (nI (sp_sum (fun p => if nI (sp_stock (sa_S A) p) = sp_told (sa_S A) p then 0 else 1) (sp_np (sa_C A)))) (nI i)) (sp_nb (sa_S A)) (fun _ => ()) _ (fun n => ?_) (fun n i hi => ?_) mm_F 0 (Nat.zero_le _) (pc_nbF ok.1.2)
      · try dsimp only
        rw [gX10_inconsistencies_L45, if_neg (pc_nlt H.1.2 ok.1.2)]
      · try dsimp only
        have hf := sp_free_le ok.1.2 hi
        rw [gX10_inconsistencies_L45, if_pos (pc_lt H.1.2 ok.1.2 hi), pc_free po_k21 H.1.2 ok.1.2 hi, Option.bind_some]
        simp only [mm_jn, Option.bind_some, nI_1]
        rw [if_neg (nI_pos (by omega))]
    · try dsimp only
      rw [gX10_inconsistencies_L4, H.1.1.1, if_pos (nI_lt hi (by omega)), pc_units po_k21 H.1.2 ok.1.2 (by omega), Option.bind_some, pc_told H (by omega), Option.bind_some]
      simp only [mm_jn, Option.bind_some, nI_1, sp_sum]
      by_cases hc : nI (sp_stock (sa_S A) i) = sp_told (sa_S A) i
      · rw [if_pos hc, if_pos hc]
        rfl
      · rw [if_neg hc, if_neg hc]
  · have H9 := ra_m_9 (v := 0) H ok
    unfold gX11_inconsistencies
    rw [Option.bind_some]
    refine po_loopF (fun n i s => gX11_inconsistencies_L9 (ms_I h 352 9 0) n (nI s) (nI i)) (sp_np (sa_C A)) (sp_sum (fun p => if nI (sp_stock (sa_S A) p) = sp_told (sa_S A) p then 0 else 1)) _ (fun n => ?_) (fun n i hi => ?_) mm_F 0 (Nat.zero_le _) (Nat.lt_of_le_of_lt (Nat.sub_le _ _) (Nat.lt_of_le_of_lt h8 (by decide)))
    · try dsimp only
      rw [gX11_inconsistencies_L9, if_pos po_m1, pm_np H9, if_neg (nI_nlt (Nat.le_refl _) (by omega))]
      refine po_loopF (fun n i (_ : Unit) => gX11_inconsistencies_L76 (ms_I h 352 9 0) n (nI (sp_sum (fun p => if nI (sp_stock (sa_S A) p) = sp_told (sa_S A) p then 0 else 1) (sp_np (sa_C A)))) (nI i)) (sp_nb (sa_S A)) (fun _ => ()) _ (fun n => ?_) (fun n i hi => ?_) mm_F 0 (Nat.zero_le _) (pc_nbF ok.1.2)
      · try dsimp only
        rw [gX11_inconsistencies_L76, if_pos po_m2, if_neg (pm_nlt H9.1.2 ok.1.2)]
      · try dsimp only
        have hh := sp_held_le ok.1.2 hi
        have hu := (ok.1.2.2.1 i hi).2.1
        rw [gX11_inconsistencies_L76, if_pos po_m2, if_pos (pm_lt H9.1.2 ok.1.2 hi), pm_held H9.1.2 ok.1.2 (pc_b20 ok.1.2 hi), Option.bind_some, pm_b H9.1.2 ok.1.2 (x := 1) (w := 1) rfl hi (by decide), Option.bind_some]
        simp only [mm_jn, Option.bind_some, nI_1]
        rw [if_neg (nI_nlt hh (by omega)), show (0 : Int32) = nI 0 from rfl, nI_add, Nat.add_zero]
    · try dsimp only
      have hi8 : i < 8 := by omega
      have ea : ∀ w, w < 4 → ∀ x, x = nI (8 + w) → gX11_ofProduct (nI i) x (ms_I h 352 9 0) = some (sp_ac (sa_S A) i w) := fun w hw x hx => by
        rw [pm_ofP hx (by omega) (by omega), pm_zP H9 hi8 hw]
      rw [gX11_inconsistencies_L9, if_pos po_m1, pm_np H9, if_pos (nI_lt hi (by omega)), ea 0 (by decide) 8 rfl, Option.bind_some, ea 1 (by decide) 9 rfl, Option.bind_some, ea 2 (by decide) 10 rfl, Option.bind_some, ea 3 (by decide) 11 rfl, Option.bind_some, Option.bind_some, pm_stock H9.1.2 ok.1.2 (by omega), Option.bind_some]
      simp only [mm_jn, Option.bind_some, nI_1, sp_sum]
      by_cases hc : nI (sp_stock (sa_S A) i) = sp_told (sa_S A) i
      · rw [if_pos (show sp_ac (sa_S A) i 0 - sp_ac (sa_S A) i 1 - sp_ac (sa_S A) i 2 + sp_ac (sa_S A) i 3 = nI (sp_stock (sa_S A) i) from hc.symm), if_pos hc, show (0 : Int32) = nI 0 from rfl, nI_add]
      · rw [if_neg (show ¬ sp_ac (sa_S A) i 0 - sp_ac (sa_S A) i 1 - sp_ac (sa_S A) i 2 + sp_ac (sa_S A) i 3 = nI (sp_stock (sa_S A) i) from fun z => hc z.symm), if_neg hc]
end PQB

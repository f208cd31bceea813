section PPA2
/-! act: one change, if it is possible -/
variable {A : sp_A} {h : mm_H}
/-- what a change leaves -/
def ac_R (A : sp_A) (h : mm_H) (x : Option ((Unit ⊕ String) × mm_H)) : Prop := ∃ A' h', x = some (.inl (), h') ∧ ra_c A' h' ∧ sa_ok A' ∧ sp_inv (sa_S A') ∧ sp_np (sa_C A') = sp_np (sa_C A) ∧ sp_dy (sa_S A') ≤ sp_dy (sa_S A) + 4 ∧ po_fr po_fc h h'
theorem po_jnP {α τ : Type} {P : τ → Prop} {k : α} {b : α → τ} (h : ∀ k', k' = k → P (b k')) : P (mm_jn k b) := h k rfl
theorem ac_none (H : ra_c A h) (ok : sa_ok A) (I : sp_inv (sa_S A)) : ac_R A h (some (.inl (), h)) := ⟨A, h, rfl, H, ok, I, rfl, Nat.le_add_right _ _, po_fr_refl h⟩
theorem ac_chg {S : sp_S} {h2 : mm_H} (ok : sa_ok (sa_chg A S)) (H : ra_c (sa_chg A S) h2) (I : sp_inv S) (hd : sp_dy S ≤ sp_dy (sa_S A) + 4) (f : po_fr po_fc h h2) : ac_R A h (some (.inl (), h2)) := ⟨sa_chg A S, h2, rfl, H, ok, I, rfl, hd, f⟩
theorem ac_z {n : Nat} (h : n = 0) : nI n = 0 := congrArg nI h
theorem ac_nz {n : Nat} (h : ¬ n = 0) (hn : n < 2 ^ 31) : ¬ nI n = 0 := fun e => h ((nI_eq (b := 0) hn (by decide)).mp e)
theorem ac_ix {n z : Nat} (hz : z < 2 ^ 31) (hn : n ≤ 100) (h0 : ¬ n = 0) : ¬ nI n = 0 ∧ nI z - nI z / nI n * nI n = nI (z % n) ∧ z % n < n := ⟨fun e => h0 ((nI_eq (b := 0) (by omega) (by decide)).mp e), pk_rem hz (by omega) (by omega), Nat.mod_lt _ (by omega)⟩
theorem ac_act (H : ra_c A h) (ok : sa_ok A) (I : sp_inv (sa_S A)) (hP : 0 < sp_np (sa_C A)) (hdy : sp_dy (sa_S A) ≤ 9000) {z : Nat} (hz : z < 2 ^ 28) : ac_R A h (gL_act (nI z) h) := by
  have h8 := ok.1.1.1
  have hb20 := ok.1.2.1.2.1
  have hr10 := ok.1.2.1.2.2
  have d16 : nI z / 16 = nI (z / 16) := pk_div (a := z) (d := 16) (by omega) (by decide) (by decide)
  have d128 : nI z / 128 = nI (z / 128) := pk_div (a := z) (d := 128) (by omega) (by decide) (by decide)
  have d2048 : nI z / 2048 = nI (z / 2048) := pk_div (a := z) (d := 2048) (by omega) (by decide) (by decide)
  have d65536 : nI z / 65536 = nI (z / 65536) := pk_div (a := z) (d := 65536) (by omega) (by decide) (by decide)
  have r13 : nI z - nI z / 13 * 13 = nI (z % 13) := pk_rem (a := z) (d := 13) (by omega) (by decide) (by decide)
  have r15 : nI (z / 128) - nI (z / 128) / 15 * 15 = nI (z / 128 % 15) := pk_rem (a := z / 128) (d := 15) (by omega) (by decide) (by decide)
  have r16 : nI (z / 2048) - nI (z / 2048) / 16 * 16 = nI (z / 2048 % 16) := pk_rem (a := z / 2048) (d := 16) (by omega) (by decide) (by decide)
  have r10 : nI (z / 2048) - nI (z / 2048) / 10 * 10 = nI (z / 2048 % 10) := pk_rem (a := z / 2048) (d := 10) (by omega) (by decide) (by decide)
  have r2 : nI (z / 2048) - nI (z / 2048) / 2 * 2 = nI (z / 2048 % 2) := pk_rem (a := z / 2048) (d := 2) (by omega) (by decide) (by decide)
  have r25 : nI (z / 2048) - nI (z / 2048) / 25 * 25 = nI (z / 2048 % 25) := pk_rem (a := z / 2048) (d := 25) (by omega) (by decide) (by decide)
  have r4 : nI (z / 2048) - nI (z / 2048) / 4 * 4 = nI (z / 2048 % 4) := pk_rem (a := z / 2048) (d := 4) (by omega) (by decide) (by decide)
  have r30 : nI (z / 65536) - nI (z / 65536) / 30 * 30 = nI (z / 65536 % 30) := pk_rem (a := z / 65536) (d := 30) (by omega) (by decide) (by decide)
  have a15 : 1 + nI (z / 128 % 15) = nI (1 + z / 128 % 15) := nI_add 1 _
  have a30 : 1 + nI (z / 65536 % 30) = nI (1 + z / 65536 % 30) := nI_add 1 _
  have a4 : 1 + nI (z / 2048 % 4) = nI (1 + z / 2048 % 4) := nI_add 1 _
  obtain ⟨p1, p2, p3⟩ := ac_ix (n := sp_np (sa_C A)) (z := z / 16) (by omega) (by omega) (by omega)
  unfold gL_act
  rw [d16, d128, d2048, d65536, r13, r15, r16, r10, r2, r25, r4, r30, a15, a30, a4, cq_productCount H, Option.bind_some, if_neg p1, p2, Option.bind_some, Option.bind_some, cq_reservationCount H, Option.bind_some]
  generalize hp9 : z / 16 % sp_np (sa_C A) = p at *
  generalize hm9 : 1 + z / 128 % 15 = m
  generalize hs9 : z % 13 = s
  generalize he9 : z / 2048 % 16 = e
  generalize ht9 : z / 2048 % 10 = t
  generalize hu9 : z / 2048 % 2 = u
  generalize hw9 : z / 2048 % 25 = w
  generalize hv9 : 1 + z / 2048 % 4 = v
  generalize hc9 : 1 + z / 65536 % 30 = c
  refine po_jnP (fun k1 e1 => ?_)
  have key : ∀ y8 : Int32, (y8 = -1 ∨ ∃ r, r < sp_nr (sa_S A) ∧ y8 = nI r) → ac_R A h (k1 y8) := by
    intro y8 hy8
    rw [e1]
    dsimp only
    rw [cq_batchCount H, Option.bind_some]
    refine po_jnP (fun k2 e2 => ?_)
    have key2 : ∀ y12 : Int32, (y12 = -1 ∨ ∃ b, b < sp_nb (sa_S A) ∧ y12 = nI b) → ac_R A h (k2 y12) := by
      intro y12 hy12
      rw [e2]
      dsimp only
      rcases (show s = 0 ∨ s = 1 ∨ s = 2 ∨ s = 3 ∨ s = 4 ∨ s = 5 ∨ s = 6 ∨ s = 7 ∨ s = 8 ∨ s = 9 ∨ s = 10 ∨ s = 11 ∨ s = 12 by omega) with rfl | rfl | rfl | rfl | rfl | rfl | rfl | rfl | rfl | rfl | rfl | rfl | rfl
      · rw [if_pos (show nI 0 = 0 by decide), Option.bind_some]
        by_cases hb : sp_nb (sa_S A) < 18
        · obtain ⟨o1, h2, g1, g2, g3⟩ := cc_receive H ok (p := p) (q := m) (e := sp_dy (sa_S A) + e) (c := c) (by omega) ⟨by omega, by omega, by omega, by omega, by omega⟩ (by omega)
          rw [if_pos (show nI (sp_nb (sa_S A)) < 18 from nI_lt hb (by decide)), cq_day H, Option.bind_some, nI_add, g1, Option.bind_some]
          exact ac_chg o1 g2 (sp_inv_add ok.1.2 I (by omega)) (Nat.le_add_right _ _) g3
        · rw [if_neg (show ¬ nI (sp_nb (sa_S A)) < 18 from nI_nlt (b := 18) (by omega) (by omega))]
          exact ac_none H ok I
      · rw [if_neg (show ¬ nI 1 = 0 by decide), if_pos (show nI 1 = 1 by decide), Option.bind_some]
        by_cases hb : sp_nb (sa_S A) < 18
        · obtain ⟨o1, h2, g1, g2, g3⟩ := cc_receive H ok (p := p) (q := m) (e := sp_dy (sa_S A) + e) (c := c) (by omega) ⟨by omega, by omega, by omega, by omega, by omega⟩ (by omega)
          rw [if_pos (show nI (sp_nb (sa_S A)) < 18 from nI_lt hb (by decide)), cq_day H, Option.bind_some, nI_add, g1, Option.bind_some]
          exact ac_chg o1 g2 (sp_inv_add ok.1.2 I (by omega)) (Nat.le_add_right _ _) g3
        · rw [if_neg (show ¬ nI (sp_nb (sa_S A)) < 18 from nI_nlt (b := 18) (by omega) (by omega))]
          exact ac_none H ok I
      · rw [if_neg (show ¬ nI 2 = 0 by decide), if_neg (show ¬ nI 2 = 1 by decide), if_pos (show nI 2 = 2 by decide), cq_day H, Option.bind_some, cq_availableOn H ok (by omega) (by omega), Option.bind_some]
        dsimp only
        have hav := sp_av_le ok.1.2 p (sp_dy (sa_S A))
        by_cases hq : m ≤ sp_av (sa_S A) p (sp_dy (sa_S A))
        · obtain ⟨o1, h2, g1, g2, g3⟩ := cc_issue H ok (p := p) (q := m) (by omega) ⟨by omega, by omega⟩ hq
          rw [if_neg (nI_nlt hq (by omega)), g1, Option.bind_some]
          exact ac_chg o1 g2 (sp_inv_issue I hq) (Nat.le_add_right _ _) g3
        · rw [if_pos (nI_lt (by omega) (by omega))]
          exact ac_none H ok I
      · rw [if_neg (show ¬ nI 3 = 0 by decide), if_neg (show ¬ nI 3 = 1 by decide), if_neg (show ¬ nI 3 = 2 by decide), if_pos (show nI 3 = 3 by decide), cq_day H, Option.bind_some, cq_availableOn H ok (by omega) (by omega), Option.bind_some]
        dsimp only
        have hav := sp_av_le ok.1.2 p (sp_dy (sa_S A))
        by_cases hq : m ≤ sp_av (sa_S A) p (sp_dy (sa_S A))
        · obtain ⟨o1, h2, g1, g2, g3⟩ := cc_issue H ok (p := p) (q := m) (by omega) ⟨by omega, by omega⟩ hq
          rw [if_neg (nI_nlt hq (by omega)), g1, Option.bind_some]
          exact ac_chg o1 g2 (sp_inv_issue I hq) (Nat.le_add_right _ _) g3
        · rw [if_pos (nI_lt (by omega) (by omega))]
          exact ac_none H ok I
      · rw [if_neg (show ¬ nI 4 = 0 by decide), if_neg (show ¬ nI 4 = 1 by decide), if_neg (show ¬ nI 4 = 2 by decide), if_neg (show ¬ nI 4 = 3 by decide), if_pos (show nI 4 = 4 by decide), cq_day H, Option.bind_some, Option.bind_some, Option.bind_some, nI_add]
        by_cases hn : sp_nr (sa_S A) < 10
        · have hav := sp_av_le ok.1.2 p (sp_dy (sa_S A) + t)
          rw [if_pos (show nI (sp_nr (sa_S A)) < 10 from nI_lt hn (by decide)), cq_availableOn H ok (by omega) (by omega), Option.bind_some]
          dsimp only
          by_cases hq : m ≤ sp_av (sa_S A) p (sp_dy (sa_S A) + t)
          · obtain ⟨o1, h2, g1, g2, g3⟩ := cc_reserve H ok (p := p) (q := m) (d := sp_dy (sa_S A) + t) (by omega) ⟨by omega, by omega, by omega, by omega⟩ ⟨hn, hq⟩
            rw [if_neg (nI_nlt hq (by omega)), g1, Option.bind_some]
            exact ac_chg o1 g2 (sp_inv_resrv I p m _) (Nat.le_add_right _ _) g3
          · rw [if_pos (nI_lt (by omega) (by omega))]
            exact ac_none H ok I
        · rw [if_neg (show ¬ nI (sp_nr (sa_S A)) < 10 from nI_nlt (b := 10) (by omega) (by omega))]
          exact ac_none H ok I
      · rw [if_neg (show ¬ nI 5 = 0 by decide), if_neg (show ¬ nI 5 = 1 by decide), if_neg (show ¬ nI 5 = 2 by decide), if_neg (show ¬ nI 5 = 3 by decide), if_neg (show ¬ nI 5 = 4 by decide), if_pos (show nI 5 = 5 by decide), cq_day H, Option.bind_some, Option.bind_some, Option.bind_some, nI_add]
        by_cases hn : sp_nr (sa_S A) < 10
        · have hav := sp_av_le ok.1.2 p (sp_dy (sa_S A) + t)
          rw [if_pos (show nI (sp_nr (sa_S A)) < 10 from nI_lt hn (by decide)), cq_availableOn H ok (by omega) (by omega), Option.bind_some]
          dsimp only
          by_cases hq : m ≤ sp_av (sa_S A) p (sp_dy (sa_S A) + t)
          · obtain ⟨o1, h2, g1, g2, g3⟩ := cc_reserve H ok (p := p) (q := m) (d := sp_dy (sa_S A) + t) (by omega) ⟨by omega, by omega, by omega, by omega⟩ ⟨hn, hq⟩
            rw [if_neg (nI_nlt hq (by omega)), g1, Option.bind_some]
            exact ac_chg o1 g2 (sp_inv_resrv I p m _) (Nat.le_add_right _ _) g3
          · rw [if_pos (nI_lt (by omega) (by omega))]
            exact ac_none H ok I
        · rw [if_neg (show ¬ nI (sp_nr (sa_S A)) < 10 from nI_nlt (b := 10) (by omega) (by omega))]
          exact ac_none H ok I
      · rw [if_neg (show ¬ nI 6 = 0 by decide), if_neg (show ¬ nI 6 = 1 by decide), if_neg (show ¬ nI 6 = 2 by decide), if_neg (show ¬ nI 6 = 3 by decide), if_neg (show ¬ nI 6 = 4 by decide), if_neg (show ¬ nI 6 = 5 by decide), if_pos (show nI 6 = 6 by decide), cq_day H, Option.bind_some, Option.bind_some, Option.bind_some, nI_add]
        by_cases hn : sp_nr (sa_S A) < 10
        · have hav := sp_av_le ok.1.2 p (sp_dy (sa_S A) + t)
          rw [if_pos (show nI (sp_nr (sa_S A)) < 10 from nI_lt hn (by decide)), cq_availableOn H ok (by omega) (by omega), Option.bind_some]
          dsimp only
          by_cases hq : m ≤ sp_av (sa_S A) p (sp_dy (sa_S A) + t)
          · obtain ⟨o1, h2, g1, g2, g3⟩ := cc_reserve H ok (p := p) (q := m) (d := sp_dy (sa_S A) + t) (by omega) ⟨by omega, by omega, by omega, by omega⟩ ⟨hn, hq⟩
            rw [if_neg (nI_nlt hq (by omega)), g1, Option.bind_some]
            exact ac_chg o1 g2 (sp_inv_resrv I p m _) (Nat.le_add_right _ _) g3
          · rw [if_pos (nI_lt (by omega) (by omega))]
            exact ac_none H ok I
        · rw [if_neg (show ¬ nI (sp_nr (sa_S A)) < 10 from nI_nlt (b := 10) (by omega) (by omega))]
          exact ac_none H ok I
      · rw [if_neg (show ¬ nI 7 = 0 by decide), if_neg (show ¬ nI 7 = 1 by decide), if_neg (show ¬ nI 7 = 2 by decide), if_neg (show ¬ nI 7 = 3 by decide), if_neg (show ¬ nI 7 = 4 by decide), if_neg (show ¬ nI 7 = 5 by decide), if_neg (show ¬ nI 7 = 6 by decide), if_pos (show nI 7 = 7 by decide)]
        rcases hy8 with rfl | ⟨r, hr, rfl⟩
        · rw [if_pos (by decide)]
          exact ac_none H ok I
        · have hwy := sp_why_le (sa_S A) r
          rw [if_neg (nI_pos (by omega)), cq_whyNotShipped H ok hr, Option.bind_some]
          dsimp only
          by_cases h0 : sp_why (sa_S A) r = 0
          · obtain ⟨o1, h2, g1, g2, g3⟩ := cc_ship H ok hr h0
            rw [if_pos (ac_z h0), g1, Option.bind_some]
            exact ac_chg o1 g2 (sp_inv_ship ok.1.2 I hr (sp_why0 h0)) (Nat.le_add_right _ _) g3
          · rw [if_neg (ac_nz h0 (by omega))]
            exact ac_none H ok I
      · rw [if_neg (show ¬ nI 8 = 0 by decide), if_neg (show ¬ nI 8 = 1 by decide), if_neg (show ¬ nI 8 = 2 by decide), if_neg (show ¬ nI 8 = 3 by decide), if_neg (show ¬ nI 8 = 4 by decide), if_neg (show ¬ nI 8 = 5 by decide), if_neg (show ¬ nI 8 = 6 by decide), if_neg (show ¬ nI 8 = 7 by decide), if_pos (show nI 8 = 8 by decide)]
        rcases hy8 with rfl | ⟨r, hr, rfl⟩
        · rw [if_pos (by decide)]
          exact ac_none H ok I
        · rw [if_neg (nI_pos (by omega)), cq_isOpen H ok hr, Option.bind_some]
          dsimp only
          by_cases h3 : sp_r (sa_S A) r 3 = 0
          · rw [if_pos (decide_eq_true h3)]
            by_cases hu : u = 0
            · obtain ⟨o1, h2, g1, g2, g3⟩ := cc_cancel H ok hr h3
              rw [if_pos (ac_z hu), g1, Option.bind_some]
              exact ac_chg o1 g2 (sp_inv_close I r 2) (Nat.le_add_right _ _) g3
            · rw [if_neg (ac_nz hu (by omega))]
              exact ac_none H ok I
          · rw [if_neg (by rw [decide_eq_false h3]; decide)]
            exact ac_none H ok I
      · rw [if_neg (show ¬ nI 9 = 0 by decide), if_neg (show ¬ nI 9 = 1 by decide), if_neg (show ¬ nI 9 = 2 by decide), if_neg (show ¬ nI 9 = 3 by decide), if_neg (show ¬ nI 9 = 4 by decide), if_neg (show ¬ nI 9 = 5 by decide), if_neg (show ¬ nI 9 = 6 by decide), if_neg (show ¬ nI 9 = 7 by decide), if_neg (show ¬ nI 9 = 8 by decide), if_pos (show nI 9 = 9 by decide)]
        rcases hy8 with rfl | ⟨r, hr, rfl⟩
        · rw [if_pos (by decide)]
          exact ac_none H ok I
        · rw [if_neg (nI_pos (by omega)), cq_isOpen H ok hr, Option.bind_some]
          dsimp only
          by_cases h3 : sp_r (sa_S A) r 3 = 0
          · obtain ⟨o1, h2, g1, g2, g3⟩ := cc_refill H ok hr h3
            rw [if_pos (decide_eq_true h3), g1, Option.bind_some]
            exact ac_chg o1 g2 (sp_inv_refill I r) (Nat.le_add_right _ _) g3
          · rw [if_neg (by rw [decide_eq_false h3]; decide)]
            exact ac_none H ok I
      · rw [if_neg (show ¬ nI 10 = 0 by decide), if_neg (show ¬ nI 10 = 1 by decide), if_neg (show ¬ nI 10 = 2 by decide), if_neg (show ¬ nI 10 = 3 by decide), if_neg (show ¬ nI 10 = 4 by decide), if_neg (show ¬ nI 10 = 5 by decide), if_neg (show ¬ nI 10 = 6 by decide), if_neg (show ¬ nI 10 = 7 by decide), if_neg (show ¬ nI 10 = 8 by decide), if_neg (show ¬ nI 10 = 9 by decide), if_pos (show nI 10 = 10 by decide)]
        rcases hy12 with rfl | ⟨b, hb, rfl⟩
        · rw [if_pos (by decide)]
          exact ac_none H ok I
        · have hh := sp_held_le ok.1.2 hb
          have hu5 := (ok.1.2.2.1 b hb).2.1
          rw [if_neg (nI_pos (by omega)), cq_reservedOf H ok hb, Option.bind_some]
          dsimp only
          by_cases hq : sp_held (sa_S A) b ≤ w
          · obtain ⟨o1, h2, g1, g2, g3⟩ := cc_takeStock H ok (b := b) (q := w) hb (by omega) hq
            rw [if_neg (nI_nlt hq (by omega)), g1, Option.bind_some]
            exact ac_chg o1 g2 (sp_inv_cnt I hb) (Nat.le_add_right _ _) g3
          · rw [if_pos (nI_lt (by omega) (by omega))]
            exact ac_none H ok I
      · obtain ⟨o1, h2, g1, g2, g3⟩ := cc_writeOff H ok
        rw [if_neg (show ¬ nI 11 = 0 by decide), if_neg (show ¬ nI 11 = 1 by decide), if_neg (show ¬ nI 11 = 2 by decide), if_neg (show ¬ nI 11 = 3 by decide), if_neg (show ¬ nI 11 = 4 by decide), if_neg (show ¬ nI 11 = 5 by decide), if_neg (show ¬ nI 11 = 6 by decide), if_neg (show ¬ nI 11 = 7 by decide), if_neg (show ¬ nI 11 = 8 by decide), if_neg (show ¬ nI 11 = 9 by decide), if_neg (show ¬ nI 11 = 10 by decide), if_pos (show nI 11 = 11 by decide), g1, Option.bind_some]
        exact ac_chg o1 g2 (sp_inv_wo I) (by rw [show sp_dy (sp_wo (sa_S A)) = sp_dy (sa_S A) from sp_wos_dy _ _]; omega) g3
      · obtain ⟨o1, h2, g1, g2, g3⟩ := cc_passDays H ok (d := v) (by omega) (by omega) (by omega)
        rw [if_neg (show ¬ nI 12 = 0 by decide), if_neg (show ¬ nI 12 = 1 by decide), if_neg (show ¬ nI 12 = 2 by decide), if_neg (show ¬ nI 12 = 3 by decide), if_neg (show ¬ nI 12 = 4 by decide), if_neg (show ¬ nI 12 = 5 by decide), if_neg (show ¬ nI 12 = 6 by decide), if_neg (show ¬ nI 12 = 7 by decide), if_neg (show ¬ nI 12 = 8 by decide), if_neg (show ¬ nI 12 = 9 by decide), if_neg (show ¬ nI 12 = 10 by decide), if_neg (show ¬ nI 12 = 11 by decide), g1, Option.bind_some]
        exact ac_chg o1 g2 (sp_inv_adv I v) (show sp_dy (sa_S A) + v ≤ sp_dy (sa_S A) + 4 by omega) g3
    by_cases hb0 : sp_nb (sa_S A) = 0
    · rw [if_pos (ac_z hb0)]
      exact key2 (-1) (Or.inl rfl)
    · obtain ⟨q1, q2, q3⟩ := ac_ix (n := sp_nb (sa_S A)) (z := z / 16) (by omega) (by omega) hb0
      rw [if_neg q1, Option.bind_some, if_neg q1, q2]
      exact key2 _ (Or.inr ⟨_, q3, rfl⟩)
  by_cases hr0 : sp_nr (sa_S A) = 0
  · rw [if_pos (ac_z hr0)]
    exact key (-1) (Or.inl rfl)
  · obtain ⟨q1, q2, q3⟩ := ac_ix (n := sp_nr (sa_S A)) (z := z / 16) (by omega) (by omega) hr0
    rw [if_neg q1, Option.bind_some, if_neg q1, q2]
    exact key _ (Or.inr ⟨_, q3, rfl⟩)
end PPA2

section PPN2
/-! the law's loop: 24 changes, each with its comparison -/
variable {A : sp_A} {o : Nat} {h : mm_H}
theorem sp_resrv_eq {S : sp_S} {p u D : Nat} (hD : sp_dy S ≤ D) : sp_resrv S p u D = sp_give (sp_addr S p u D) (sp_nr S) (sp_tk (sp_free (sp_addr S p u D)) (sp_ord (sp_addr S p u D) p D) u) := by
  have r0 : sp_r (sp_addr S p u D) (sp_nr S) 0 = p := if_pos rfl
  have r2 : sp_r (sp_addr S p u D) (sp_nr S) 2 = D := if_pos rfl
  unfold sp_resrv sp_refill
  rw [sp_addr_lack, r0, r2, show sp_dy (sp_addr S p u D) = sp_dy S from rfl, Nat.max_eq_left hD]
theorem sp_addr_free (S : sp_S) (p q d b : Nat) : sp_free (sp_addr S p q d) b = sp_free S b := by
  unfold sp_free
  rw [sp_addr_held]
  rfl
theorem sp_addr_av (S : sp_S) (p q d x e : Nat) : sp_av (sp_addr S p q d) x e = sp_av S x e := sp_sum_eq (fun b _ => by rw [sp_addr_free]; rfl)
theorem sp_addr_alls (S : sp_S) (p q d : Nat) : sp_alls (sp_addr S p q d) (sp_nr S) = 0 := sp_sum_zero (fun y _ => if_pos rfl)
theorem sp_resrv_al {S : sp_S} {p u D b : Nat} (hD : sp_dy S ≤ D) (h0 : 0 < sp_al (sp_resrv S p u D) (sp_nr S) b) : D ≤ sp_b S b 2 := by
  rw [sp_resrv_eq hD] at h0
  have e : sp_al (sp_give (sp_addr S p u D) (sp_nr S) (sp_tk (sp_free (sp_addr S p u D)) (sp_ord (sp_addr S p u D) p D) u)) (sp_nr S) b = (if sp_nr S = sp_nr S then (if sp_nr S = sp_nr S then 0 else sp_al S (sp_nr S) b) + sp_tk (sp_free (sp_addr S p u D)) (sp_ord (sp_addr S p u D) p D) u b else (if sp_nr S = sp_nr S then 0 else sp_al S (sp_nr S) b)) := rfl
  rw [e, if_pos rfl, if_pos rfl, Nat.zero_add] at h0
  by_cases hm : b ∈ sp_ord (sp_addr S p u D) p D
  · exact (of_decide_eq_true (sp_ordk_mem.mp hm).2 : sp_b S b 0 = p ∧ D ≤ sp_b S b 2 ∧ 0 < sp_free (sp_addr S p u D) b).2.1
  · rw [sp_tk_no hm] at h0
    exact absurd h0 (Nat.lt_irrefl 0)
theorem sp_resrv_lack {S : sp_S} {p u D : Nat} (hD : sp_dy S ≤ D) (hu : u ≤ sp_av S p D) : sp_lack (sp_resrv S p u D) (sp_nr S) = 0 := by
  rw [sp_resrv_eq hD]
  unfold sp_lack
  rw [sp_give_alls, sp_addr_alls]
  have e1 : sp_sum (sp_tk (sp_free (sp_addr S p u D)) (sp_ord (sp_addr S p u D) p D) u) (sp_nb (sp_addr S p u D)) = u := by
    rw [sp_tk_sum (l := sp_ord (sp_addr S p u D) p D) (sp_srt_0 (e := sp_e (sp_addr S p u D)) sp_ordk_srt) (fun x hx => (sp_ordk_mem.mp hx).1), sp_left_lsum, sp_lsum_av, sp_addr_av]
    omega
  rw [e1]
  have e2 : sp_r (sp_give (sp_addr S p u D) (sp_nr S) (sp_tk (sp_free (sp_addr S p u D)) (sp_ord (sp_addr S p u D) p D) u)) (sp_nr S) 1 = u := if_pos rfl
  rw [e2]
  split <;> omega
theorem so_ship_0 (S : sp_S) (w b : Nat) : sp_b S b 1 = sp_b (so_ship S w 0) b 1 := Eq.symm (show (if 1 = 1 ∧ b < 0 then sp_b S b 1 - sp_al S w b else sp_b S b 1) = sp_b S b 1 from if_neg (fun z => absurd z.2 (Nat.not_lt_zero b)))
def lw_T (h : mm_H) (x : Option ((Bool ⊕ String) × mm_H)) : Prop := ∃ h', x = some (.inl true, h') ∧ h'.1 = h.1
theorem lw_loop {P : Nat} (ho : 352 ≤ o) (hP : 0 < P) : ∀ d n i A h, ra_c A h → sa_ok A → sp_inv (sa_S A) → sp_np (sa_C A) = P → sp_dy (sa_S A) + 4 * d ≤ 8000 → i + d = 24 → d < n → lw_T h (gL_law_L61 o (nI P) n (nI i) h) := by
  intro d
  induction d with
  | zero =>
    intro n i A h H ok I hp hdy hi hn
    obtain ⟨m, rfl⟩ : ∃ m, n = m + 1 := ⟨n - 1, by omega⟩
    obtain rfl : i = 24 := by omega
    rw [gL_law_L61, if_neg (by decide)]
    exact ⟨h, rfl, rfl⟩
  | succ d ih =>
    intro n i A h H ok I hp hdy hi hn
    obtain ⟨m, rfl⟩ : ∃ m, n = m + 1 := ⟨n - 1, by omega⟩
    have hz : lp h (17 + i) 268435456 < 2 ^ 28 := lp_lt (by decide)
    rw [gL_law_L61, if_pos (show nI i < 24 from nI_lt (show i < 24 by omega) (by decide)), show 17 + nI i = nI (17 + i) from nI_add 17 i, show (268435456 : Int32) = nI 268435456 from rfl, gL_pickN (by omega) (by decide) (by decide), Option.bind_some]
    generalize lp h (17 + i) 268435456 = z at hz
    obtain ⟨A1, h1, e1, H1, ok1, I1, np1, dy1, f1⟩ := ac_act H ok I (by omega) (by omega) hz
    rw [e1, Option.bind_some]
    dsimp only
    obtain ⟨h2, e2, K2, f2⟩ := so_read H1 ok1 ho
    have H2 := ra_c_ow H1 f2
    have hc2 : h2.1 = h.1 := f2.2.1.trans f1.2.1
    rw [e2, Option.bind_some]
    dsimp only
    rw [so_agrees H2 ok1 K2 (sp_inv_inc ok1 I1), Option.bind_some]
    dsimp only
    have h8 := ok1.1.1.1
    have hb20 := ok1.1.2.1.2.1
    have hr10 := ok1.1.2.1.2.2
    have hdy9 : sp_dy (sa_S A1) ≤ 8000 := by omega
    obtain ⟨q1, q2, q3⟩ := ac_ix (n := P) (z := z / 16) (by omega) (by omega) (by omega)
    have d16 : nI z / 16 = nI (z / 16) := pk_div (a := z) (d := 16) (by omega) (by decide) (by decide)
    have d64 : nI z / 64 = nI (z / 64) := pk_div (a := z) (d := 64) (by omega) (by decide) (by decide)
    have d1024 : nI z / 1024 = nI (z / 1024) := pk_div (a := z) (d := 1024) (by omega) (by decide) (by decide)
    have d32768 : nI z / 32768 = nI (z / 32768) := pk_div (a := z) (d := 32768) (by omega) (by decide) (by decide)
    have r4 : nI z - nI z / 4 * 4 = nI (z % 4) := pk_rem (a := z) (d := 4) (by omega) (by decide) (by decide)
    have r12 : nI (z / 64) - nI (z / 64) / 12 * 12 = nI (z / 64 % 12) := pk_rem (a := z / 64) (d := 12) (by omega) (by decide) (by decide)
    have r8 : nI (z / 1024) - nI (z / 1024) / 8 * 8 = nI (z / 1024 % 8) := pk_rem (a := z / 1024) (d := 8) (by omega) (by decide) (by decide)
    have a12 : 1 + nI (z / 64 % 12) = nI (1 + z / 64 % 12) := nI_add 1 _
    rw [if_pos rfl, if_neg q1, d16, d64, d1024, d32768, r4, r12, r8, a12, q2, Option.bind_some, Option.bind_some, cq_day H2, Option.bind_some, nI_add, Option.bind_some, cq_reservationCount H2, Option.bind_some]
    generalize hp9 : z / 16 % P = p at q3
    generalize hu9 : 1 + z / 64 % 12 = u
    generalize hD9 : sp_dy (sa_S A1) + z / 1024 % 8 = D
    have hpn : p < sp_np (sa_C A1) := by omega
    have hD : sp_dy (sa_S A1) ≤ D ∧ D ≤ 9999 := by omega
    have hu : 1 ≤ u ∧ u ≤ 12 := by omega
    refine po_jnP (fun j32 e32 => ?_)
    have key : ∀ y31 : Int32, (y31 = -1 ∨ ∃ r, r < sp_nr (sa_S A1) ∧ y31 = nI r) → lw_T h (j32 y31) := by
      intro y31 hy31
      rw [e32]
      dsimp only
      refine po_jnP (fun j34 e34 => ?_)
      have nxt : ∀ A' h', ra_c A' h' → sa_ok A' → sp_inv (sa_S A') → sp_np (sa_C A') = P → sp_dy (sa_S A') ≤ sp_dy (sa_S A1) → h'.1 = h.1 → lw_T h (j34 h') := by
        intro A' h' H' ok' I' np' dy' c'
        rw [e34]
        dsimp only
        rw [Option.bind_some, nI_1]
        obtain ⟨h9, x1, x2⟩ := ih m (i + 1) A' h' H' ok' I' np' (by omega) (by omega) (by omega)
        exact ⟨h9, x1, x2.trans c'⟩
      have npc : ∀ S, sp_np (sa_C (sa_chg A1 S)) = P := fun S => np1.trans hp
      refine po_jnP (fun j37 e37 => ?_)
      have k37 : lw_T h (j37 h2) := by
        rw [e37]
        dsimp only
        refine po_jnP (fun j39 e39 => ?_)
        have k39 : lw_T h (j39 h2) := by
          rw [e39]
          dsimp only
          by_cases hm2 : z % 4 = 2
          · rw [if_pos (show nI (z % 4) = 2 from congrArg nI hm2)]
            refine po_jnP (fun j94 e94 => ?_)
            obtain ⟨h3, g3, K3, f3⟩ := lw_L449 (u1 := nI P) (u2 := nI i) ok1 ho j94 (sp_nb (sa_S A1)) mm_F 0 h2 H2 K2 (by omega) (Nat.lt_of_le_of_lt hb20 (by decide))
            have H3 := ra_c_ow H2 f3
            have g3' : gL_law_L449 o (nI P) (nI i) j94 mm_F 0 0 h2 = j94 (nI (sp_wosum (sa_S A1))) h3 := g3
            obtain ⟨o4, h4, g4, H4, f4⟩ := cc_writeOff H3 ok1
            rw [g3', e94]
            dsimp only
            rw [g4, Option.bind_some]
            dsimp only
            rw [if_pos rfl, so_agrees H4 o4 (so_fr K3 f4 po_fc_352 ho) (sp_inv_inc o4 (sp_inv_wo I1)), Option.bind_some]
            dsimp only
            rw [if_pos rfl]
            exact nxt _ h4 H4 o4 (sp_inv_wo I1) (npc _) (by rw [show sp_dy (sa_S (sa_chg A1 (sp_wo (sa_S A1)))) = sp_dy (sa_S A1) from sp_wos_dy _ _]; exact Nat.le_refl _) (f4.2.1.trans (f3.2.1.trans hc2))
          · rw [if_neg (show ¬ nI (z % 4) = 2 from fun e => hm2 ((nI_eq (b := 2) (by omega) (by decide)).mp e))]
            rcases hy31 with rfl | ⟨w, hw, rfl⟩
            · rw [if_pos (by decide)]
              exact nxt A1 h2 H2 ok1 I1 (np1.trans hp) (Nat.le_refl _) hc2
            · have hwy := sp_why_le (sa_S A1) w
              rw [if_neg (nI_pos (by omega)), cq_whyNotShipped H2 ok1 hw, Option.bind_some]
              dsimp only
              by_cases h0 : sp_why (sa_S A1) w = 0
              · have h3 := sp_why0 h0
                rw [if_pos (ac_z h0)]
                refine po_jnP (fun j50 e50 => ?_)
                have hle : ∀ b, b < sp_nb (sa_S A1) → sp_al (sa_S A1) w b ≤ sp_b (sa_S A1) b 1 := fun b hb => Nat.le_trans (sp_al_held hw h3) (sp_held_le ok1.1.2 hb)
                have K20 : so_S (so_ship (sa_S A1) w 0) o h2 := ⟨K2.1, K2.2.1, fun b hb => (K2.2.2.1 b hb).trans (congrArg nI (so_ship_0 _ _ _)), K2.2.2.2⟩
                obtain ⟨h4, g4, K4, f4⟩ := lw_L599 (u1 := nI P) (u2 := nI i) ok1 ho hw hle j50 (sp_nb (sa_S A1)) mm_F 0 h2 H2 K20 (by omega) (Nat.lt_of_le_of_lt hb20 (by decide))
                have H4 := ra_c_ow H2 f4
                have g4' : gL_law_L599 o (nI P) (nI i) (nI w) j50 mm_F 0 0 h2 = j50 (nI (sp_shipCost (sa_S A1) w)) h4 := g4
                obtain ⟨o5, h5, g5, H5, f5⟩ := cc_ship H4 ok1 hw h0
                have K5 := so_fr K4 f5 po_fc_352 ho
                have K5' : so_S (sa_S (sa_chg A1 (sp_ship (sa_S A1) w))) o h5 := ⟨K5.1, K5.2.1, fun b hb => (K5.2.2.1 b hb).trans (congrArg nI (if_pos ⟨rfl, hb⟩)), K5.2.2.2⟩
                have hw5 : w < sp_nr (sa_S (sa_chg A1 (sp_ship (sa_S A1) w))) := hw
                have h35 : ¬ sp_r (sa_S (sa_chg A1 (sp_ship (sa_S A1) w))) w 3 = 0 := by
                  show ¬ (if w = w ∧ 3 = 3 then 1 else _) = 0
                  rw [if_pos ⟨rfl, rfl⟩]
                  decide
                rw [g4', e50]
                dsimp only
                rw [g5, Option.bind_some]
                dsimp only
                rw [if_pos rfl, cq_isOpen H5 o5 hw5, Option.bind_some]
                dsimp only
                rw [if_neg (by rw [decide_eq_false h35]; decide), so_agrees H5 o5 K5' (sp_inv_inc o5 (sp_inv_ship ok1.1.2 I1 hw h3)), Option.bind_some]
                dsimp only
                rw [if_pos rfl]
                exact nxt _ h5 H5 o5 (sp_inv_ship ok1.1.2 I1 hw h3) (npc _) (Nat.le_refl _) (f5.2.1.trans (f4.2.1.trans hc2))
              · rw [if_neg (ac_nz h0 (by omega))]
                exact nxt A1 h2 H2 ok1 I1 (np1.trans hp) (Nat.le_refl _) hc2
        by_cases hm1 : z % 4 = 1
        · rw [if_pos (show nI (z % 4) = 1 from congrArg nI hm1)]
          by_cases hn : sp_nr (sa_S A1) < 10
          · have hav9 := sp_av_le ok1.1.2 p D
            rw [cq_reservationCount H2, Option.bind_some, if_pos (show nI (sp_nr (sa_S A1)) < 10 from nI_lt hn (by decide)), so_free H2 ok1 (so_C_refl _) ok1.1.2 K2 (by omega) (by omega), Option.bind_some]
            dsimp only
            by_cases hav : u ≤ sp_av (sa_S A1) p D
            · have f3 : po_fr po_ow h2 (ms_I h2 o 4 (nI (sp_nr (sa_S A1) + 1))) := po_fr_I (decide_eq_true ho)
              have H3 := ra_c_ow H2 f3
              obtain ⟨o4, h4, g4, H4, f4⟩ := cc_reserve H3 ok1 (p := p) (q := u) (d := D) hpn ⟨hu.1, by omega, hD.1, hD.2⟩ ⟨hn, hav⟩
              rw [if_neg (nI_nlt hav (by omega)), K2.2.1, nI_1, Option.bind_some, Option.bind_some, g4, Option.bind_some]
              dsimp only
              rw [if_pos rfl]
              refine po_jnP (fun j172 e172 => ?_)
              have fr4 : ∀ q j, 352 ≤ q → mh_I h4 q j = mh_I (ms_I h2 o 4 (nI (sp_nr (sa_S A1) + 1))) q j := fun q j hq => f4.1 q (po_fc_352 q hq) j
              obtain ⟨h5, g5, z5, c5, f5⟩ := lw_L321 (u1 := nI P) (u2 := nI i) (u3 := nI p) (u4 := nI u) (u5 := nI D) (r := sp_nr (sa_S A1)) (nb := sp_nb (sa_S A1)) ho hn hb20 j172 (sp_nb (sa_S A1)) mm_F 0 h4 ((fr4 o 3 ho).trans ((po_I4 (by decide)).trans K2.1)) (fun x hx => absurd hx (Nat.not_lt_zero x)) (by omega) (Nat.lt_of_le_of_lt hb20 (by decide))
              have g5' : gL_law_L321 o (nI P) (nI i) (nI p) (nI u) (nI D) (nI (sp_nr (sa_S A1))) j172 mm_F 0 h4 = j172 h5 := g5
              have H5 := ra_c_ow H4 f5
              have K5 : so_S (sp_addr (sa_S A1) p u D) o h5 := by
                refine ⟨(c5 o 3 (by omega)).trans ((fr4 o 3 ho).trans ((po_I4 (by decide)).trans K2.1)), (c5 o 4 (by omega)).trans ((fr4 o 4 ho).trans po_I1), fun b hb => (c5 (o + 1) b (by omega)).trans ((fr4 (o + 1) b (by omega)).trans ((po_I3 (by omega)).trans (K2.2.2.1 b hb))), fun r hr b hb => ?_⟩
                have hr' : r < sp_nr (sa_S A1) + 1 := hr
                show _ = nI (if r = sp_nr (sa_S A1) then 0 else sp_al (sa_S A1) r b)
                by_cases hrn : r = sp_nr (sa_S A1)
                · rw [hrn, if_pos rfl]
                  exact z5 b hb
                · rw [if_neg hrn]
                  exact (c5 (o + 3 + r) b (by omega)).trans ((fr4 (o + 3 + r) b (by omega)).trans ((po_I3 (by omega)).trans (K2.2.2.2 r (by omega) b hb)))
              have C5 : so_C (sp_addr (sa_S A1) p u D) (sa_S (sa_chg A1 (sp_resrv (sa_S A1) p u D))) := ⟨⟨rfl, rfl, rfl⟩, fun _ _ _ _ => rfl, fun _ _ => rfl⟩
              have okO := sp_addr_ok ok1.1.2 (p := p) (q := u) (d := D) hn (by omega) (by omega) hD.2
              have r31 : sp_r (sp_addr (sa_S A1) p u D) (sp_nr (sa_S A1)) 3 = 0 := if_pos rfl
              have r11 : sp_r (sp_addr (sa_S A1) p u D) (sp_nr (sa_S A1)) 1 = u := if_pos rfl
              obtain ⟨h6, g6, K6, f6⟩ := so_alloc H5 o4 ho C5 okO K5 (r := sp_nr (sa_S A1)) (p := p) (d := D) (u := u) (by omega) (by omega) (Nat.lt_succ_self _) r31 (by rw [r11, sp_addr_alls]; omega) (by rw [sp_addr_av]; exact hav) (by omega)
              rw [← sp_resrv_eq hD.1] at K6
              have H6 := ra_c_ow H5 f6
              have hr6 : sp_nr (sa_S A1) < sp_nr (sa_S (sa_chg A1 (sp_resrv (sa_S A1) p u D))) := Nat.lt_succ_self _
              have hlk : sp_lack (sa_S (sa_chg A1 (sp_resrv (sa_S A1) p u D))) (sp_nr (sa_S A1)) = 0 := sp_resrv_lack hD.1 hav
              rw [g5', e172]
              dsimp only
              rw [g6, Option.bind_some]
              dsimp only
              rw [if_pos rfl, so_agrees H6 o4 K6 (sp_inv_inc o4 (sp_inv_resrv I1 p u D)), Option.bind_some]
              dsimp only
              rw [if_pos rfl, cq_missing H6 o4 hr6, Option.bind_some]
              dsimp only
              rw [if_pos (ac_z hlk)]
              refine po_jnP (fun j192 e192 => ?_)
              have g7 := lw_L389 (u1 := nI P) (u2 := nI i) (d0 := D) H6 o4 K6 hr6 (by omega) (fun b hb h0 => (sp_resrv_al (S := sa_S A1) (p := p) (u := u) hD.1 h0 : D ≤ sp_b (sa_S A1) b 2)) j192 (sp_nb (sa_S A1)) mm_F 0 (by rw [Nat.zero_add]; rfl) (Nat.lt_of_le_of_lt hb20 (by decide))
              have g7' : gL_law_L389 o (nI P) (nI i) (nI D) (nI (sp_nr (sa_S A1))) j192 mm_F 0 h6 = j192 h6 := g7
              rw [g7', e192]
              dsimp only
              exact nxt _ h6 H6 o4 (sp_inv_resrv I1 p u D) (npc _) (Nat.le_refl _) (f6.2.1.trans (f5.2.1.trans (f4.2.1.trans (f3.2.1.trans hc2))))
            · rw [if_pos (nI_lt (by omega) (by omega))]
              exact k39
          · rw [cq_reservationCount H2, Option.bind_some, if_neg (show ¬ nI (sp_nr (sa_S A1)) < 10 from nI_nlt (b := 10) (by omega) (by omega))]
            exact k39
        · rw [if_neg (show ¬ nI (z % 4) = 1 from fun e => hm1 ((nI_eq (b := 1) (by omega) (by decide)).mp e))]
          exact k39
      by_cases hm0 : z % 4 = 0
      · have hav9 := sp_av_le ok1.1.2 p (sp_dy (sa_S A1))
        rw [if_pos (ac_z hm0), Option.bind_some, so_free H2 ok1 (so_C_refl _) ok1.1.2 K2 (by omega) (by omega), Option.bind_some]
        dsimp only
        by_cases hav : u ≤ sp_av (sa_S A1) p (sp_dy (sa_S A1))
        · have hic := sp_icost_le ok1.1.2 p u
          obtain ⟨h3, g3, H3, f3⟩ := cq_costOfIssue H2 ok1 (p := p) (q := u) hpn ⟨hu.1, by omega⟩ hav
          obtain ⟨h4, g4, H4, f4⟩ := cq_costOfIssue H3 ok1 (p := p) (q := u) hpn ⟨hu.1, by omega⟩ hav
          have K4 := so_fr (so_fr K2 f3 po_fc_352 ho) f4 po_fc_352 ho
          obtain ⟨h5, g5, K5, f5⟩ := so_issue H4 ok1 ho (so_C_refl _) ok1.1.2 K4 (p := p) (u := u) (by omega) hav (by omega)
          have H5 := ra_c_ow H4 f5
          obtain ⟨o6, h6, g6, H6, f6⟩ := cc_issue H5 ok1 (p := p) (q := u) hpn ⟨hu.1, by omega⟩ hav
          rw [if_neg (nI_nlt hav (by omega)), g3, Option.bind_some]
          dsimp only
          rw [if_neg (nI_pos (by omega)), g4, Option.bind_some]
          dsimp only
          rw [g5, Option.bind_some]
          dsimp only
          rw [g6, Option.bind_some]
          dsimp only
          rw [if_pos rfl, if_pos rfl, so_agrees H6 o6 (so_fr K5 f6 po_fc_352 ho) (sp_inv_inc o6 (sp_inv_issue I1 hav)), Option.bind_some]
          dsimp only
          rw [if_pos rfl]
          exact nxt _ h6 H6 o6 (sp_inv_issue I1 hav) (npc _) (Nat.le_refl _) (f6.2.1.trans (f5.2.1.trans (f4.2.1.trans (f3.2.1.trans hc2))))
        · rw [if_pos (nI_lt (by omega) (by omega))]
          exact k37
      · rw [if_neg (ac_nz hm0 (by omega))]
        exact k37
    by_cases hr0 : sp_nr (sa_S A1) = 0
    · rw [if_pos (ac_z hr0)]
      exact key (-1) (Or.inl rfl)
    · obtain ⟨w1, w2, w3⟩ := ac_ix (n := sp_nr (sa_S A1)) (z := z / 32768) (by omega) (by omega) hr0
      rw [if_neg w1, Option.bind_some, if_neg w1, w2]
      exact key _ (Or.inr ⟨_, w3, rfl⟩)
end PPN2

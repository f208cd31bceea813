section PPQ
/-! the reference's write-offs; new reservations -/
variable {S : sp_S} {h : mm_H}
theorem pm_wo_L {b nr : Nat} {u : Int32} {k : Int32 → mm_H → Option (Int32 × mm_H)} {st : Nat → Nat} (hb : b < 20) (hn : nr ≤ 10) (h1 : mh_I h 353 3 = nI nr) (hs : ∀ r, r < nr → mh_I h 353 (180 + 24 * r + 3) = nI (st r) ∧ st r ≤ 2) :
    ∃ h', gX11_writeOff_L61 u (nI b) k mm_F 0 h = k u h' ∧ (∀ j, mh_I h' 353 j = mh_I h 353 j ∨ ∃ r, r < nr ∧ j = 180 + 24 * r + (4 + b) ∧ st r = 0) ∧ (∀ r, r < nr → st r = 0 → mh_I h' 353 (180 + 24 * r + (4 + b)) = 0) ∧ po_fx h h' := by
  have key : ∀ n i h2, i ≤ nr → nr - i < n → (∀ j, mh_I h2 353 j = mh_I h 353 j ∨ ∃ r, r < nr ∧ j = 180 + 24 * r + (4 + b) ∧ st r = 0) → (∀ r, r < i → st r = 0 → mh_I h2 353 (180 + 24 * r + (4 + b)) = 0) → po_fx h h2 →
      ∃ h', gX11_writeOff_L61 u (nI b) k n (nI i) h2 = k u h' ∧ (∀ j, mh_I h' 353 j = mh_I h 353 j ∨ ∃ r, r < nr ∧ j = 180 + 24 * r + (4 + b) ∧ st r = 0) ∧ (∀ r, r < nr → st r = 0 → mh_I h' 353 (180 + 24 * r + (4 + b)) = 0) ∧ po_fx h h' := by
    intro n
    induction n with
    | zero => intro i h2 _ h9; omega
    | succ n ih =>
      intro i h2 hi hnn hI hz hf
      have keep : ∀ j, (∀ r, r < nr → j ≠ 180 + 24 * r + (4 + b)) → mh_I h2 353 j = mh_I h 353 j := fun j hj => by
        rcases hI j with h9 | ⟨r, hr, hj9, -⟩
        · exact h9
        · exact absurd hj9 (hj r hr)
      have e1 : mh_I h2 353 3 = nI nr := (keep 3 (fun r _ => by omega)).trans h1
      rw [gX11_writeOff_L61, if_pos po_m3, po_t3, e1]
      by_cases hlt : i < nr
      · have e2 : gX11_isOpenOne (nI i) h2 = some (decide (st i = 0)) := by
          unfold gX11_isOpenOne
          rw [pm_ofR (x := 3) (w := 3) rfl (by omega) (by decide), keep _ (fun r hr => by omega), (hs i hlt).1, Option.bind_some]
          exact po_bool (nI_eq (b := 0) (by have := (hs i hlt).2; omega) (by omega))
        rw [if_pos (nI_lt hlt (by omega)), e2, Option.bind_some]
        simp only [mm_jn]
        by_cases hc : st i = 0
        · rw [if_pos (decide_eq_true hc), pm_setR (w := 4 + b) (by rw [← nI_add]; rfl) (by omega) (by omega), Option.bind_some, Option.bind_some, nI_1]
          refine ih (i + 1) _ (by omega) (by omega) (fun j => ?_) (fun r hr h3 => ?_) (po_fx_trans hf (po_fx_I (po_kp (by first | omega | decide))))
          · by_cases hj : j = 180 + 24 * i + (4 + b)
            · exact Or.inr ⟨i, hlt, hj, hc⟩
            · rw [po_I4 hj]
              exact hI j
          · by_cases hri : r = i
            · rw [hri]
              exact po_I1
            · rw [po_I4 (by omega)]
              exact hz r (by omega) h3
        · rw [if_neg (by rw [decide_eq_false hc]; decide), Option.bind_some, nI_1]
          refine ih (i + 1) h2 (by omega) (by omega) hI (fun r hr h3 => hz r ?_ h3) hf
          have : r ≠ i := fun z => hc (z ▸ h3)
          omega
      · rw [if_neg (nI_nlt (by omega) (by omega))]
        exact ⟨h2, rfl, hI, fun r hr h3 => hz r (by omega) h3, hf⟩
  exact key mm_F 0 h (Nat.zero_le _) (Nat.lt_of_le_of_lt (Nat.sub_le _ _) (Nat.lt_of_le_of_lt hn (by decide))) (fun j => Or.inl rfl) (fun r hr => absurd hr (Nat.not_lt_zero _)) (po_fx_refl h)
/-- one expired batch -/
theorem pm_wo1 (H : sm_S S 0 h) (ok : sp_ok S) {b : Nat} (hb : b < sp_nb S) {u : Int32} {k : Int32 → mm_H → Option (Int32 × mm_H)} :
    ∃ h', gX11_writeOff_L61 u (nI b) k mm_F 0 (ms_I (ms_I h 353 (4 + 12 * sp_b S b 0 + 10) (mh_I h 353 (4 + 12 * sp_b S b 0 + 10) + nI (sp_b S b 1))) 353 (100 + 4 * b + 1) 0) = k u h' ∧ sm_S (sp_wo1 S b) 0 h' ∧ po_fx h h' := by
  have hb20 := pc_b20 ok hb
  have hp8 := (ok.2.1 b hb).1
  have hn20 := ok.1.2.1
  generalize hH1 : ms_I (ms_I h 353 (4 + 12 * sp_b S b 0 + 10) (mh_I h 353 (4 + 12 * sp_b S b 0 + 10) + nI (sp_b S b 1))) 353 (100 + 4 * b + 1) 0 = H1
  have k1 : ∀ j, j ≠ 100 + 4 * b + 1 → j ≠ 4 + 12 * sp_b S b 0 + 10 → mh_I H1 353 j = mh_I h 353 j := fun j a c => by rw [← hH1, po_I4 a, po_I4 c]
  have kb : mh_I H1 353 (100 + 4 * b + 1) = 0 := by rw [← hH1, po_I1]
  have ka : mh_I H1 353 (4 + 12 * sp_b S b 0 + 10) = mh_I h 353 (4 + 12 * sp_b S b 0 + 10) + nI (sp_b S b 1) := by rw [← hH1, po_I4 (by omega), po_I1]
  have f1 : po_fx h H1 := by rw [← hH1]; exact po_fx_trans (po_fx_I (po_kp (by first | omega | decide))) (po_fx_I (po_kp (by first | omega | decide)))
  obtain ⟨h', e1, e2, e3, e4⟩ := pm_wo_L (h := H1) (u := u) (k := k) (st := fun r => sp_r S r 3) hb20 ok.1.2.2 ((k1 3 (by omega) (by omega)).trans H.1.2.2) (fun r hr => ⟨(k1 _ (by have := pc_r10 ok hr; omega) (by omega)).trans (pm_zR H hr (by decide)), (ok.2.2 r hr).2.2.2.1⟩)
  have kk : ∀ j, (∀ r, r < sp_nr S → j ≠ 180 + 24 * r + (4 + b)) → mh_I h' 353 j = mh_I H1 353 j := fun j hj => by
    rcases e2 j with h9 | ⟨r, hr, hj9, -⟩
    · exact h9
    · exact absurd hj9 (hj r hr)
  refine ⟨h', e1, ⟨⟨?_, ?_, ?_⟩, fun x hx w hw => ?_, fun x hx => ⟨fun w hw => ?_, fun y hy => ?_⟩, fun x hx w hw => ?_⟩, po_fx_trans f1 e4⟩
  · rw [kk _ (fun r _ => by omega), k1 _ (by omega) (by omega)]; exact H.1.1
  · rw [kk _ (fun r _ => by omega), k1 _ (by omega) (by omega)]; exact H.1.2.1
  · rw [kk _ (fun r _ => by omega), k1 _ (by omega) (by omega)]; exact H.1.2.2
  · have hx20 := pc_b20 ok (show x < sp_nb S from hx)
    rw [kk _ (fun r _ => by omega)]
    show _ = nI (if x = b ∧ w = 1 then 0 else sp_b S x w)
    by_cases hc : x = b ∧ w = 1
    · obtain ⟨rfl, rfl⟩ := hc
      rw [if_pos ⟨rfl, rfl⟩, show 420 * 0 + 100 + 4 * x + 1 = 100 + 4 * x + 1 by omega, kb]
      rfl
    · rw [if_neg hc, k1 _ (by omega) (by omega)]
      exact H.2.1 x hx w hw
  · have hx10 := pc_r10 ok (show x < sp_nr S from hx)
    rw [kk _ (fun r _ => by omega), k1 _ (by omega) (by omega)]
    exact (H.2.2.1 x hx).1 w hw
  · have hx10 := pc_r10 ok (show x < sp_nr S from hx)
    show _ = nI (if y = b ∧ sp_r S x 3 = 0 then 0 else sp_al S x y)
    by_cases hc : y = b ∧ sp_r S x 3 = 0
    · rw [if_pos hc, hc.1, show 420 * 0 + 184 + 24 * x + b = 180 + 24 * x + (4 + b) by omega]
      exact e3 x hx hc.2
    · rw [if_neg hc]
      rcases e2 (420 * 0 + 184 + 24 * x + y) with h9 | ⟨r, hr, hj, h3⟩
      · rw [h9, k1 _ (by omega) (by omega)]
        exact (H.2.2.1 x hx).2 y hy
      · exfalso
        have h8 : r = x ∧ y = b := ⟨by omega, by omega⟩
        exact hc ⟨h8.2, h8.1 ▸ h3⟩
  · rw [kk _ (fun r _ => by omega)]
    show _ = (if x = sp_b S b 0 ∧ w = 2 then sp_ac S x w + nI (sp_b S b 1) else sp_ac S x w)
    have h9 := H.2.2.2 x hx w hw
    by_cases hc : x = sp_b S b 0 ∧ w = 2
    · obtain ⟨h8, rfl⟩ := hc
      rw [if_pos ⟨h8, rfl⟩, show 420 * 0 + 12 + 12 * x + 2 = 4 + 12 * sp_b S b 0 + 10 by omega, ka]
      rw [show 420 * 0 + 12 + 12 * x + 2 = 4 + 12 * sp_b S b 0 + 10 by omega] at h9
      rw [h9]
    · rw [if_neg hc, k1 _ (by omega) (by omega)]
      exact h9
theorem pm_wo (H : sm_S S 0 h) (ok : sp_ok S) : ∃ h', gX11_writeOff h = some (nI (sp_wosum S), h') ∧ sm_S (sp_wo S) 0 h' ∧ po_fx h h' := by
  have key : ∀ n i h2, i ≤ sp_nb S → sp_nb S - i < n → sm_S (sp_wos S i) 0 h2 → po_fx h h2 →
      ∃ h', gX11_writeOff_L4 n (nI (sp_sum (fun b => if sp_b S b 2 < sp_dy S then sp_b S b 1 else 0) i)) (nI i) h2 = some (nI (sp_wosum S), h') ∧ sm_S (sp_wo S) 0 h' ∧ po_fx h h' := by
    intro n
    induction n with
    | zero => intro i h2 _ h9; omega
    | succ n ih =>
      intro i h2 hi hn H2 hf
      have ok2 := sp_wos_ok ok i
      obtain ⟨s1, s2, s3⟩ := sp_wos_same S i
      have enb := sp_wos_nb S i
      have edy := sp_wos_dy S i
      rw [gX11_writeOff_L4, if_pos po_m2]
      by_cases hlt : i < sp_nb S
      · have hlt2 : i < sp_nb (sp_wos S i) := by rw [enb]; exact hlt
        have hi20 := pc_b20 ok hlt
        rw [if_pos (pm_lt H2 ok2 hlt2), pm_past H2 ok2 hlt2, Option.bind_some, s2 i 2 (Or.inl (by decide)), edy]
        simp only [mm_jn]
        by_cases hc : sp_b S i 2 < sp_dy S
        · rw [if_pos (decide_eq_true hc), pm_b H2 ok2 (x := 1) (w := 1) rfl hlt2 (by decide), Option.bind_some, Option.bind_some, pm_b H2 ok2 (x := 0) (w := 0) rfl hlt2 (by decide), Option.bind_some, Option.bind_some, pm_note (x := 10) (w := 10) rfl (by have := (ok2.2.1 i hlt2).1; omega) (by decide), Option.bind_some, pm_setB (x := 1) (w := 1) rfl (by omega) (by decide), Option.bind_some]
          obtain ⟨h3, c1, c2, c3⟩ := pm_wo1 H2 ok2 hlt2 (u := nI (sp_sum (fun b => if sp_b S b 2 < sp_dy S then sp_b S b 1 else 0) i) + nI (sp_b (sp_wos S i) i 1)) (k := fun (y8 : Int32) (h9 : mm_H) => (some (nI i + 1)).bind (fun (x11 : Int32) => gX11_writeOff_L4 n y8 x11 h9))
          rw [c1]
          show ∃ h', gX11_writeOff_L4 n (nI (sp_sum (fun b => if sp_b S b 2 < sp_dy S then sp_b S b 1 else 0) i) + nI (sp_b (sp_wos S i) i 1)) (nI i + 1) h3 = _ ∧ _
          rw [s2 i 1 (Or.inr (Nat.le_refl _)), nI_add, nI_1]
          have e1 : sp_sum (fun b => if sp_b S b 2 < sp_dy S then sp_b S b 1 else 0) (i + 1) = sp_sum (fun b => if sp_b S b 2 < sp_dy S then sp_b S b 1 else 0) i + sp_b S i 1 := by
            rw [sp_sum, if_pos hc]
          rw [← e1]
          refine ih (i + 1) h3 (by omega) (by omega) ?_ (po_fx_trans hf c3)
          rw [sp_wos, if_pos hc]
          exact c2
        · rw [if_neg (by rw [decide_eq_false hc]; decide), Option.bind_some, nI_1]
          have e1 : sp_sum (fun b => if sp_b S b 2 < sp_dy S then sp_b S b 1 else 0) (i + 1) = sp_sum (fun b => if sp_b S b 2 < sp_dy S then sp_b S b 1 else 0) i := by
            rw [sp_sum, if_neg hc]
            rfl
          rw [← e1]
          refine ih (i + 1) h2 (by omega) (by omega) ?_ hf
          rw [sp_wos, if_neg hc]
          exact H2
      · have hin : i = sp_nb S := by omega
        subst hin
        have hnlt := pm_nlt H2 ok2
        rw [enb] at hnlt
        rw [if_neg hnlt]
        exact ⟨h2, rfl, H2, hf⟩
  unfold gX11_writeOff
  exact key mm_F 0 h (Nat.zero_le _) (pc_nbF ok) H (po_fx_refl h)
/-! a new reservation, still without units -/
def sp_addr (S : sp_S) (p q d : Nat) : sp_S :=
  ((sp_dy S, sp_nb S, sp_nr S + 1), S.2.1, (fun x w => if x = sp_nr S then (if w = 0 then p else if w = 1 then q else if w = 2 then d else 0) else sp_r S x w), (fun x y => if x = sp_nr S then 0 else sp_al S x y), S.2.2.2.2)
theorem sp_addr_held (S : sp_S) (p q d b : Nat) : sp_held (sp_addr S p q d) b = sp_held S b := by
  show sp_sum (fun r => if (if r = sp_nr S then (if 3 = 0 then p else if 3 = 1 then q else if 3 = 2 then d else 0) else sp_r S r 3) = 0 then (if r = sp_nr S then 0 else sp_al S r b) else 0) (sp_nr S) + (if (if sp_nr S = sp_nr S then (if 3 = 0 then p else if 3 = 1 then q else if 3 = 2 then d else 0) else sp_r S (sp_nr S) 3) = 0 then (if sp_nr S = sp_nr S then 0 else sp_al S (sp_nr S) b) else 0) = sp_held S b
  rw [show (if (if sp_nr S = sp_nr S then (if 3 = 0 then p else if 3 = 1 then q else if 3 = 2 then d else 0) else sp_r S (sp_nr S) 3) = 0 then (if sp_nr S = sp_nr S then 0 else sp_al S (sp_nr S) b) else 0) = 0 by simp]
  exact sp_sum_eq (fun r hr => by rw [if_neg (show ¬ r = sp_nr S by omega), if_neg (show ¬ r = sp_nr S by omega)])
theorem sp_addr_ok {S : sp_S} (ok : sp_ok S) {p q d : Nat} (hn : sp_nr S < 10) (hp : p < 8) (hq : q ≤ 9999) (hd : d ≤ 9999) : sp_ok (sp_addr S p q d) := by
  refine ⟨⟨ok.1.1, ok.1.2.1, hn⟩, fun b hb => ?_, fun r hr => ?_⟩
  · obtain ⟨g1, g2, g3, g4, g5⟩ := ok.2.1 b hb
    exact ⟨g1, g2, g3, g4, by rw [sp_addr_held]; exact g5⟩
  · have hr' : r < sp_nr S + 1 := hr
    by_cases hrn : r = sp_nr S
    · subst hrn
      have e : ∀ w, sp_r (sp_addr S p q d) (sp_nr S) w = (if w = 0 then p else if w = 1 then q else if w = 2 then d else 0) := fun w => if_pos rfl
      have ea : ∀ y, sp_al (sp_addr S p q d) (sp_nr S) y = 0 := fun y => if_pos rfl
      refine ⟨by rw [e]; exact hp, by rw [e]; exact hq, by rw [e]; exact hd, by rw [e]; exact (show (0 : Nat) ≤ 2 by decide), fun y hy => ⟨by rw [ea]; exact Nat.zero_le _, fun _ => ea y⟩, fun _ => ?_⟩
      have : sp_alls (sp_addr S p q d) (sp_nr S) = 0 := sp_sum_zero (fun y _ => ea y)
      rw [this]
      exact Nat.zero_le _
    · have e : ∀ w, sp_r (sp_addr S p q d) r w = sp_r S r w := fun w => if_neg hrn
      have ea : ∀ y, sp_al (sp_addr S p q d) r y = sp_al S r y := fun y => if_neg hrn
      obtain ⟨g1, g2, g3, g4, g5, g6⟩ := ok.2.2 r (by omega)
      refine ⟨by rw [e]; exact g1, by rw [e]; exact g2, by rw [e]; exact g3, by rw [e]; exact g4, fun y hy => by rw [ea]; exact g5 y hy, fun h3 => ?_⟩
      rw [e] at h3 ⊢
      have : sp_alls (sp_addr S p q d) r = sp_alls S r := sp_sum_eq (fun y _ => ea y)
      rw [this]
      exact g6 h3
def sp_resrv (S : sp_S) (p q d : Nat) : sp_S := sp_refill (sp_addr S p q d) (sp_nr S)
theorem sp_addr_lack (S : sp_S) (p q d : Nat) : sp_lack (sp_addr S p q d) (sp_nr S) = q := by
  unfold sp_lack
  have e : ∀ w, sp_r (sp_addr S p q d) (sp_nr S) w = (if w = 0 then p else if w = 1 then q else if w = 2 then d else 0) := fun w => if_pos rfl
  have : sp_alls (sp_addr S p q d) (sp_nr S) = 0 := sp_sum_zero (fun y _ => if_pos rfl)
  rw [e, e, this]
  rfl
end PPQ

section PPO
/-! write-offs -/
def sp_wo1 (S : sp_S) (b : Nat) : sp_S :=
  (S.1, (fun x w => if x = b ∧ w = 1 then 0 else sp_b S x w), S.2.2.1, (fun x y => if y = b ∧ sp_r S x 3 = 0 then 0 else sp_al S x y), (fun x w => if x = sp_b S b 0 ∧ w = 2 then sp_ac S x w + nI (sp_b S b 1) else sp_ac S x w))
theorem sp_wo1_held (S : sp_S) (b x : Nat) : sp_held (sp_wo1 S b) x = if x = b then 0 else sp_held S x := by
  show sp_sum (fun r => if sp_r S r 3 = 0 then (if x = b ∧ sp_r S r 3 = 0 then 0 else sp_al S r x) else 0) (sp_nr S) = _
  by_cases hc : x = b
  · rw [if_pos hc]
    exact sp_sum_zero (fun r _ => by
      by_cases h3 : sp_r S r 3 = 0
      · rw [if_pos h3, if_pos ⟨hc, h3⟩]
      · rw [if_neg h3])
  · rw [if_neg hc]
    exact sp_sum_eq (fun r _ => by rw [if_neg (show ¬ (x = b ∧ sp_r S r 3 = 0) from fun z => hc z.1)])
theorem sp_wo1_ok {S : sp_S} (ok : sp_ok S) (b : Nat) : sp_ok (sp_wo1 S b) := by
  refine ⟨ok.1, fun x hx => ?_, fun r hr => ?_⟩
  · obtain ⟨g1, g2, g3, g4, g5⟩ := ok.2.1 x hx
    have e : ∀ w, w ≠ 1 → sp_b (sp_wo1 S b) x w = sp_b S x w := fun w hw => if_neg (fun z => hw z.2)
    have e1 : sp_b (sp_wo1 S b) x 1 = if x = b then 0 else sp_b S x 1 := by
      show (if x = b ∧ 1 = 1 then 0 else sp_b S x 1) = _
      by_cases hc : x = b
      · rw [if_pos ⟨hc, rfl⟩, if_pos hc]
      · rw [if_neg (fun z => hc z.1), if_neg hc]
    refine ⟨by rw [e 0 (by decide)]; exact g1, ?_, by rw [e 2 (by decide)]; exact g3, by rw [e 3 (by decide)]; exact g4, ?_⟩
    · rw [e1]
      split <;> omega
    · rw [e1, sp_wo1_held]
      by_cases hc : x = b
      · rw [if_pos hc, if_pos hc]; exact Nat.le_refl _
      · rw [if_neg hc, if_neg hc]; exact g5
  · obtain ⟨g1, g2, g3, g4, g5, g6⟩ := ok.2.2 r hr
    have ea : ∀ y, sp_al (sp_wo1 S b) r y ≤ sp_al S r y := fun y => by
      show (if y = b ∧ sp_r S r 3 = 0 then 0 else sp_al S r y) ≤ _
      split <;> omega
    refine ⟨g1, g2, g3, g4, fun y hy => ⟨Nat.le_trans (ea y) (g5 y hy).1, fun z => ?_⟩, fun h3 => Nat.le_trans (sp_sum_mono (fun y _ => ea y)) (g6 h3)⟩
    have := (g5 y hy).2 z
    have := ea y
    omega
def sp_wos (S : sp_S) : Nat → sp_S
  | 0 => S
  | k + 1 => if sp_b S k 2 < sp_dy S then sp_wo1 (sp_wos S k) k else sp_wos S k
def sp_wo (S : sp_S) : sp_S := sp_wos S (sp_nb S)
def sp_wosum (S : sp_S) : Nat := sp_sum (fun b => if sp_b S b 2 < sp_dy S then sp_b S b 1 else 0) (sp_nb S)
/-- what write-offs leave alone -/
theorem sp_wos_same (S : sp_S) : ∀ k, (sp_wos S k).1 = S.1 ∧ (∀ x w, (w ≠ 1 ∨ k ≤ x) → sp_b (sp_wos S k) x w = sp_b S x w) ∧ (sp_wos S k).2.2.1 = S.2.2.1
  | 0 => ⟨rfl, fun _ _ _ => rfl, rfl⟩
  | k + 1 => by
    obtain ⟨h1, h2, h3⟩ := sp_wos_same S k
    unfold sp_wos
    by_cases hc : sp_b S k 2 < sp_dy S
    · rw [if_pos hc]
      refine ⟨h1, fun x w hw => ?_, h3⟩
      show (if x = k ∧ w = 1 then 0 else sp_b (sp_wos S k) x w) = _
      rw [if_neg (by omega)]
      exact h2 x w (by omega)
    · rw [if_neg hc]
      exact ⟨h1, fun x w hw => h2 x w (by omega), h3⟩
theorem sp_wos_ok {S : sp_S} (ok : sp_ok S) : ∀ k, sp_ok (sp_wos S k)
  | 0 => ok
  | k + 1 => by
    unfold sp_wos
    split
    · exact sp_wo1_ok (sp_wos_ok ok k) k
    · exact sp_wos_ok ok k
theorem sp_wos_dy (S : sp_S) (k : Nat) : sp_dy (sp_wos S k) = sp_dy S := congrArg (fun z => z.1) (sp_wos_same S k).1
theorem sp_wos_nb (S : sp_S) (k : Nat) : sp_nb (sp_wos S k) = sp_nb S := congrArg (fun z => z.2.1) (sp_wos_same S k).1
theorem sp_wos_nr (S : sp_S) (k : Nat) : sp_nr (sp_wos S k) = sp_nr S := congrArg (fun z => z.2.2) (sp_wos_same S k).1
variable {S : sp_S} {o : Nat} {h : mm_H}
theorem pc_wo_L (hk : mm_kd o = (0, 7)) {b nr : Nat} {st : Nat → Nat} (hb : b < 20) (hn : nr ≤ 10) (h1 : mh_I h o 7 = nI nr) (hs : ∀ r, r < nr → mh_I h (o + 18) r = nI (st r) ∧ st r ≤ 2) :
    ∃ h', gX7_writeOff_L43 o (nI b) mm_F 0 h = some h' ∧ (∀ j, mh_I h' (o + 20) j = mh_I h (o + 20) j ∨ ∃ r, r < nr ∧ j = 20 * r + b ∧ st r = 0) ∧ (∀ r, r < nr → st r = 0 → mh_I h' (o + 20) (20 * r + b) = 0) ∧ po_fr (fun z => z == o + 20) h h' := by
  have hc20 : (fun z => z == o + 20) (o + 20) = true := by simp
  have hcf : ∀ k, k ≠ 20 → (fun z => z == o + 20) (o + k) = false := fun k hk => by simp; omega
  refine po_loop (fun n i h => gX7_writeOff_L43 o (nI b) n (nI i) h) nr (fun i h' => (∀ j, mh_I h' (o + 20) j = mh_I h (o + 20) j ∨ ∃ r, r < nr ∧ j = 20 * r + b ∧ st r = 0) ∧ (∀ r, r < i → st r = 0 → mh_I h' (o + 20) (20 * r + b) = 0) ∧ po_fr (fun z => z == o + 20) h h')
    (fun h' => (∀ j, mh_I h' (o + 20) j = mh_I h (o + 20) j ∨ ∃ r, r < nr ∧ j = 20 * r + b ∧ st r = 0) ∧ (∀ r, r < nr → st r = 0 → mh_I h' (o + 20) (20 * r + b) = 0) ∧ po_fr (fun z => z == o + 20) h h') (fun n h2 hI => ?_) (fun n i h2 hi hI => ?_) mm_F 0 h (Nat.zero_le _) (Nat.lt_of_le_of_lt (Nat.sub_le _ _) (Nat.lt_of_le_of_lt hn (by decide))) ⟨fun j => Or.inl rfl, fun r hr => absurd hr (Nat.not_lt_zero _), po_fr_refl h⟩
  · have e1 : mh_I h2 o 7 = nI nr := (hI.2.2.1 (o + 0) (hcf 0 (by decide)) 7).trans h1
    rw [gX7_writeOff_L43, e1, if_neg (nI_nlt (Nat.le_refl _) (by omega))]
    exact ⟨h2, rfl, hI⟩
  · have e1 : mh_I h2 o 7 = nI nr := (hI.2.2.1 (o + 0) (hcf 0 (by decide)) 7).trans h1
    have e2 : gX4_get (o + 17) (nI i) h2 = some (nI (st i)) := pc_get (po_cap7 hk).2.1.2.2.2.1 (by omega) (by decide) ((hI.2.2.1 (o + 18) (hcf 18 (by decide)) i).trans (hs i hi).1)
    have e3 : gX7_isPending o (nI i) h2 = some (decide (st i = 0)) := by
      unfold gX7_isPending
      rw [e2, Option.bind_some]
      exact po_bool (nI_eq (b := 0) (by have := (hs i hi).2; omega) (by omega))
    rw [gX7_writeOff_L43, e1, if_pos (nI_lt hi (by omega)), e3, Option.bind_some]
    simp only [mm_jn]
    by_cases hc : st i = 0
    · rw [if_pos (decide_eq_true hc), pc_ix, po_put (by rw [(po_cap7 hk).2.1.2.2.2.2]; omega) (by rw [(po_cap7 hk).2.1.2.2.2.2]; decide), Option.bind_some, Option.bind_some, nI_1]
      refine ⟨_, ⟨fun j => ?_, fun r hr h3 => ?_, po_fr_trans hI.2.2 (po_fr_I hc20)⟩, rfl⟩
      · show mh_I (ms_I h2 (o + 20) (20 * i + b) 0) (o + 20) j = _ ∨ _
        by_cases hj : j = 20 * i + b
        · exact Or.inr ⟨i, hi, hj, hc⟩
        · rw [po_I4 hj]
          exact hI.1 j
      · show mh_I (ms_I h2 (o + 20) (20 * i + b) 0) (o + 20) (20 * r + b) = 0
        by_cases hri : r = i
        · rw [hri]
          exact po_I1
        · rw [po_I4 (by omega)]
          exact hI.2.1 r (by omega) h3
    · rw [if_neg (by rw [decide_eq_false hc]; decide), Option.bind_some, nI_1]
      refine ⟨h2, ⟨hI.1, fun r hr h3 => ?_, hI.2.2⟩, rfl⟩
      refine hI.2.1 r ?_ h3
      have : r ≠ i := fun z => hc (z ▸ h3)
      omega
theorem pc_wo1 (hk : mm_kd o = (0, 7)) (H : sc_S S o h) (ok : sp_ok S) {b : Nat} (hb : b < sp_nb S) :
    ∃ h', gX7_writeOff o (nI b) h = some h' ∧ sc_S (sp_wo1 S b) o h' ∧ po_fr (po_in o) h h' := by
  unfold gX7_writeOff
  have hb20 := pc_b20 ok hb
  obtain ⟨q1, q2, q3, q4, q5⟩ := H.2.1 b hb
  have hp8 := (ok.2.1 b hb).1
  rw [pc_g1 hk H ok hb, Option.bind_some, pc_g3 hk H ok hb, Option.bind_some, po_add (by rw [(po_cap7 hk).2.2.2.2.2.1]; exact hp8) (by rw [(po_cap7 hk).2.2.2.2.2.1]; decide), Option.bind_some, po_put (by rw [(po_cap7 hk).1.2.1]; exact hb20) (by rw [(po_cap7 hk).1.2.1]; decide), Option.bind_some, po_put (by rw [(po_cap7 hk).1.2.2.1]; exact hb20) (by rw [(po_cap7 hk).1.2.2.1]; decide), Option.bind_some]
  generalize hH1 : ms_I (ms_I (ms_I h (o + 27 + 1) (sp_b S b 0) (mh_I h (o + 27 + 1) (sp_b S b 0) + nI (sp_b S b 1))) (o + 3 + 1) b 0) (o + 5 + 1) b 0 = H1
  have k28 : ∀ j, mh_I H1 (o + 28) j = if j = sp_b S b 0 then mh_I h (o + 28) j + nI (sp_b S b 1) else mh_I h (o + 28) j := fun j => by
    rw [← hH1, po_I3 (by omega), po_I3 (by omega)]
    show mh_I (ms_I h (o + 28) (sp_b S b 0) (mh_I h (o + 28) (sp_b S b 0) + nI (sp_b S b 1))) (o + 28) j = _
    by_cases hj : j = sp_b S b 0
    · rw [if_pos hj, hj, po_I1]
    · rw [if_neg hj, po_I4 hj]
  have k4 : ∀ j, mh_I H1 (o + 4) j = if j = b then 0 else mh_I h (o + 4) j := fun j => by
    rw [← hH1, po_I3 (by omega)]
    by_cases hj : j = b
    · rw [if_pos hj, hj]
      exact po_I1
    · rw [if_neg hj]
      exact (po_I4 hj).trans (po_I3 (by omega))
  have k6 : ∀ j, mh_I H1 (o + 6) j = if j = b then 0 else mh_I h (o + 6) j := fun j => by
    rw [← hH1]
    by_cases hj : j = b
    · rw [if_pos hj, hj]
      exact po_I1
    · rw [if_neg hj]
      exact (po_I4 hj).trans ((po_I3 (by omega)).trans (po_I3 (by omega)))
  have kk : ∀ k, k ≠ 28 → k ≠ 4 → k ≠ 6 → ∀ j, mh_I H1 (o + k) j = mh_I h (o + k) j := fun k a b c j => by
    rw [← hH1, po_I3 (by omega), po_I3 (by omega), po_I3 (by omega)]
  have f1 : po_fr (po_in o) h H1 := by
    rw [← hH1]
    exact po_fr_trans (po_fr_trans (po_fr_I (po_in_f (k := 28) (by decide))) (po_fr_I (po_in_f (k := 4) (by decide)))) (po_fr_I (po_in_f (k := 6) (by decide)))
  obtain ⟨h', e1, e2, e3, e4⟩ := pc_wo_L (h := H1) (st := fun r => sp_r S r 3) hk hb20 ok.1.2.2 ((kk 0 (by decide) (by decide) (by decide) 7).trans H.1.2.2) (fun r hr => ⟨(kk 18 (by decide) (by decide) (by decide) r).trans (H.2.2.1 r hr).2.2.2.1, (ok.2.2 r hr).2.2.2.1⟩)
  have kg : ∀ k, k ≠ 20 → ∀ j, mh_I h' (o + k) j = mh_I H1 (o + k) j := fun k h20 j => e4.1 _ (by simp; omega) j
  have kz : ∀ k, k ≠ 20 → k ≠ 28 → k ≠ 4 → k ≠ 6 → ∀ j, mh_I h' (o + k) j = mh_I h (o + k) j := fun k a b c d j => (kg k a j).trans (kk k b c d j)
  refine ⟨h', e1, ⟨⟨(kz 0 (by decide) (by decide) (by decide) (by decide) 0).trans H.1.1, (kz 0 (by decide) (by decide) (by decide) (by decide) 1).trans H.1.2.1, (kz 0 (by decide) (by decide) (by decide) (by decide) 7).trans H.1.2.2⟩, fun x hx => ?_, fun x hx => ?_, fun x hx => ?_⟩, po_fr_trans f1 (po_fr_mono e4 (fun z hz => ?_))⟩
  · obtain ⟨g1, g2, g3, g4, g5⟩ := H.2.1 x hx
    have e : ∀ w, w ≠ 1 → sp_b (sp_wo1 S b) x w = sp_b S x w := fun w hw => if_neg (fun z => hw z.2)
    rw [e 0 (by decide), e 2 (by decide), e 3 (by decide), sp_wo1_held]
    refine ⟨(kz 2 (by decide) (by decide) (by decide) (by decide) x).trans g1, ?_, ?_, (kz 8 (by decide) (by decide) (by decide) (by decide) x).trans g4, (kz 10 (by decide) (by decide) (by decide) (by decide) x).trans g5⟩
    · rw [kg 4 (by decide), k4]
      show _ = nI (if x = b ∧ 1 = 1 then 0 else sp_b S x 1)
      by_cases hc : x = b
      · rw [if_pos hc, if_pos ⟨hc, rfl⟩]
        rfl
      · rw [if_neg hc, if_neg (fun z => hc z.1)]
        exact g2
    · rw [kg 6 (by decide), k6]
      by_cases hc : x = b
      · rw [if_pos hc, if_pos hc]
        rfl
      · rw [if_neg hc, if_neg hc]
        exact g3
  · obtain ⟨g1, g2, g3, g4, g5⟩ := H.2.2.1 x hx
    refine ⟨(kz 12 (by decide) (by decide) (by decide) (by decide) x).trans g1, (kz 14 (by decide) (by decide) (by decide) (by decide) x).trans g2, (kz 16 (by decide) (by decide) (by decide) (by decide) x).trans g3, (kz 18 (by decide) (by decide) (by decide) (by decide) x).trans g4, fun y hy => ?_⟩
    show _ = nI (if y = b ∧ sp_r S x 3 = 0 then 0 else sp_al S x y)
    by_cases hc : y = b ∧ sp_r S x 3 = 0
    · rw [if_pos hc, hc.1]
      exact e3 x hx hc.2
    · rw [if_neg hc]
      rcases e2 (20 * x + y) with h9 | ⟨r, hr, hj, h3⟩
      · rw [h9, kk 20 (by decide) (by decide) (by decide)]
        exact g5 y hy
      · exfalso
        have h8 : r = x ∧ y = b := ⟨by omega, by omega⟩
        exact hc ⟨h8.2, h8.1 ▸ h3⟩
  · obtain ⟨g1, g2, g3, g4⟩ := H.2.2.2 x hx
    have e : ∀ w, w ≠ 2 → sp_ac (sp_wo1 S b) x w = sp_ac S x w := fun w hw => if_neg (fun z => hw z.2)
    rw [e 0 (by decide), e 1 (by decide), e 3 (by decide)]
    refine ⟨(kz 22 (by decide) (by decide) (by decide) (by decide) x).trans g1, by rw [kz 24 (by decide) (by decide) (by decide) (by decide), kz 26 (by decide) (by decide) (by decide) (by decide)]; exact g2, ?_, (kz 30 (by decide) (by decide) (by decide) (by decide) x).trans g4⟩
    rw [kg 28 (by decide), k28, g3]
    show _ = (if x = sp_b S b 0 ∧ 2 = 2 then sp_ac S x 2 + nI (sp_b S b 1) else sp_ac S x 2)
    by_cases hc : x = sp_b S b 0
    · rw [if_pos hc, if_pos ⟨hc, rfl⟩]
    · rw [if_neg hc, if_neg (fun z => hc z.1)]
  · have := of_decide_eq_false hz
    simp
    omega
theorem pc_wo (hk : mm_kd o = (0, 7)) (H : sc_S S o h) (ok : sp_ok S) :
    ∃ h', gX7_writeOffExpiredBatches o h = some (nI (sp_wosum S), h') ∧ sc_S (sp_wo S) o h' ∧ po_fr (po_in o) h h' := by
  have key : ∀ n i h2, i ≤ sp_nb S → sp_nb S - i < n → sc_S (sp_wos S i) o h2 → po_fr (po_in o) h h2 →
      ∃ h', gX7_writeOffExpiredBatches_L4 o n (nI (sp_sum (fun b => if sp_b S b 2 < sp_dy S then sp_b S b 1 else 0) i)) (nI i) h2 = some (nI (sp_wosum S), h') ∧ sc_S (sp_wo S) o h' ∧ po_fr (po_in o) h h' := by
    intro n
    induction n with
    | zero => intro i h2 _ h9; omega
    | succ n ih =>
      intro i h2 hi hn H2 hf
      have ok2 := sp_wos_ok ok i
      obtain ⟨s1, s2, s3⟩ := sp_wos_same S i
      have enb := sp_wos_nb S i
      have edy := sp_wos_dy S i
      rw [gX7_writeOffExpiredBatches_L4]
      by_cases hlt : i < sp_nb S
      · have hlt2 : i < sp_nb (sp_wos S i) := by rw [enb]; exact hlt
        rw [if_pos (pc_lt H2 ok2 hlt2), pc_hasExp hk H2 ok2 hlt2, Option.bind_some, s2 i 2 (Or.inl (by decide)), edy]
        simp only [mm_jn]
        by_cases hc : sp_b S i 2 < sp_dy S
        · rw [if_pos (decide_eq_true hc), pc_g3 hk H2 ok2 hlt2, Option.bind_some, Option.bind_some, s2 i 1 (Or.inr (Nat.le_refl _))]
          obtain ⟨h3, c1, c2, c3⟩ := pc_wo1 hk H2 ok2 hlt2
          rw [c1, Option.bind_some, Option.bind_some, nI_add, nI_1]
          have e1 : sp_sum (fun b => if sp_b S b 2 < sp_dy S then sp_b S b 1 else 0) (i + 1) = sp_sum (fun b => if sp_b S b 2 < sp_dy S then sp_b S b 1 else 0) i + sp_b S i 1 := by
            rw [sp_sum, if_pos hc]
          rw [← e1]
          refine ih (i + 1) h3 (by omega) (by omega) ?_ (po_fr_trans hf c3)
          rw [sp_wos, if_pos hc]
          exact c2
        · rw [if_neg (by rw [decide_eq_false hc]; decide), Option.bind_some, nI_1]
          have e1 : sp_sum (fun b => if sp_b S b 2 < sp_dy S then sp_b S b 1 else 0) (i + 1) = sp_sum (fun b => if sp_b S b 2 < sp_dy S then sp_b S b 1 else 0) i := by
            rw [sp_sum, if_neg hc]
            rfl
          rw [← e1]
          refine ih (i + 1) h2 (by omega) (by omega) ?_ hf
          rw [sp_wos, if_neg hc]
          exact H2
      · have hin : i = sp_nb S := by omega
        subst hin
        have hnlt := pc_nlt H2 ok2
        rw [enb] at hnlt
        rw [if_neg hnlt]
        exact ⟨h2, rfl, H2, hf⟩
  unfold gX7_writeOffExpiredBatches
  exact key mm_F 0 h (Nat.zero_le _) (pc_nbF ok) H (po_fr_refl h)
end PPO

section PPN
/-! stock takes; days that pass -/
def sp_cnt (S : sp_S) (b c : Nat) : sp_S :=
  (S.1, (fun x w => if x = b ∧ w = 1 then c else sp_b S x w), S.2.2.1, S.2.2.2.1, (fun x w => if x = sp_b S b 0 ∧ w = 3 then sp_ac S x w + (nI c - nI (sp_b S b 1)) else sp_ac S x w))
theorem sp_cnt_ok {S : sp_S} (ok : sp_ok S) {b c : Nat} (h1 : sp_held S b ≤ c) (h2 : c ≤ 999) : sp_ok (sp_cnt S b c) := by
  refine ⟨ok.1, fun x hx => ?_, ok.2.2⟩
  obtain ⟨g1, g2, g3, g4, g5⟩ := ok.2.1 x hx
  have e : ∀ w, w ≠ 1 → sp_b (sp_cnt S b c) x w = sp_b S x w := fun w hw => if_neg (fun z => hw z.2)
  have e1 : sp_b (sp_cnt S b c) x 1 = if x = b then c else sp_b S x 1 := by
    show (if x = b ∧ 1 = 1 then c else sp_b S x 1) = _
    by_cases hc : x = b
    · rw [if_pos ⟨hc, rfl⟩, if_pos hc]
    · rw [if_neg (fun z => hc z.1), if_neg hc]
  refine ⟨by rw [e 0 (by decide)]; exact g1, ?_, by rw [e 2 (by decide)]; exact g3, by rw [e 3 (by decide)]; exact g4, ?_⟩
  · rw [e1]
    split <;> omega
  · rw [e1]
    show sp_held S x ≤ _
    by_cases hc : x = b
    · rw [if_pos hc, hc]; exact h1
    · rw [if_neg hc]; exact g5
def sp_adv (S : sp_S) (d : Nat) : sp_S := ((sp_dy S + d, sp_nb S, sp_nr S), S.2)
theorem sp_adv_ok {S : sp_S} (ok : sp_ok S) {d : Nat} (h1 : sp_dy S + d ≤ 20000) : sp_ok (sp_adv S d) := ⟨⟨h1, ok.1.2⟩, ok.2⟩
def sp_newx (S : sp_S) (d : Nat) : Nat := sp_sum (fun b => if 0 < sp_b S b 1 ∧ sp_dy S ≤ sp_b S b 2 ∧ sp_b S b 2 < sp_dy S + d then 1 else 0) (sp_nb S)
def sp_past (S : sp_S) : Nat := sp_sum (fun b => if sp_b S b 2 < sp_dy S ∧ 0 < sp_b S b 1 then 1 else 0) (sp_nb S)
theorem sp_past_adv (S : sp_S) (d : Nat) : sp_past (sp_adv S d) = sp_past S + sp_newx S d := by
  show sp_sum (fun b => if sp_b S b 2 < sp_dy S + d ∧ 0 < sp_b S b 1 then 1 else 0) (sp_nb S) = _
  unfold sp_past sp_newx
  rw [← sp_sum_add]
  refine sp_sum_eq (fun i _ => ?_)
  by_cases h1 : 0 < sp_b S i 1
  · by_cases h2 : sp_b S i 2 < sp_dy S
    · rw [if_pos ⟨by omega, h1⟩, if_pos ⟨h2, h1⟩, if_neg (by omega)]
    · by_cases h3 : sp_b S i 2 < sp_dy S + d
      · rw [if_pos ⟨h3, h1⟩, if_neg (fun z => h2 z.1), if_pos ⟨h1, by omega, h3⟩]
      · rw [if_neg (fun z => h3 z.1), if_neg (fun z => h2 z.1), if_neg (fun z => h3 z.2.2)]
  · rw [if_neg (fun z => h1 z.2), if_neg (fun z => h1 z.2), if_neg (fun z => h1 z.1)]
variable {S : sp_S} {o : Nat} {h : mm_H}
theorem pc_count (hk : mm_kd o = (0, 7)) (H : sc_S S o h) (ok : sp_ok S) {b c : Nat} (hb : b < sp_nb S) :
    ∃ h', gX7_countBatch o (nI b) (nI c) h = some (nI c - nI (sp_b S b 1), h') ∧ sc_S (sp_cnt S b c) o h' ∧ po_fr (po_in o) h h' := by
  unfold gX7_countBatch
  have hb20 := pc_b20 ok hb
  obtain ⟨q1, q2, q3, q4, q5⟩ := H.2.1 b hb
  have hp8 := (ok.2.1 b hb).1
  rw [pc_g3 hk H ok hb, Option.bind_some, Option.bind_some, po_put (by rw [(po_cap7 hk).1.2.1]; exact hb20) (by rw [(po_cap7 hk).1.2.1]; decide), Option.bind_some]
  have e1 : gX4_get (o + 1) (nI b) (ms_I h (o + 3 + 1) b (nI c)) = some (nI (sp_b S b 0)) := pc_get (po_cap7 hk).1.1 hb20 (by decide) (by rw [po_I3 (by omega)]; exact q1)
  rw [e1, Option.bind_some, po_add (by rw [(po_cap7 hk).2.2.2.2.2.2]; exact hp8) (by rw [(po_cap7 hk).2.2.2.2.2.2]; decide), Option.bind_some]
  refine ⟨_, rfl, ⟨⟨?_, ?_, ?_⟩, fun x hx => ?_, fun x hx => ?_, fun x hx => ?_⟩, po_fr_trans (po_fr_I (po_in_f (k := 4) (by decide))) (po_fr_I (po_in_f (k := 30) (by decide)))⟩
  · rw [po_I3 (by omega), po_I3 (by omega)]; exact H.1.1
  · rw [po_I3 (by omega), po_I3 (by omega)]; exact H.1.2.1
  · rw [po_I3 (by omega), po_I3 (by omega)]; exact H.1.2.2
  · obtain ⟨g1, g2, g3, g4, g5⟩ := H.2.1 x hx
    have e : ∀ w, w ≠ 1 → sp_b (sp_cnt S b c) x w = sp_b S x w := fun w hw => if_neg (fun z => hw z.2)
    rw [e 0 (by decide), e 2 (by decide), e 3 (by decide)]
    refine ⟨by rw [po_I3 (by omega), po_I3 (by omega)]; exact g1, ?_, by rw [po_I3 (by omega), po_I3 (by omega)]; exact g3, by rw [po_I3 (by omega), po_I3 (by omega)]; exact g4, by rw [po_I3 (by omega), po_I3 (by omega)]; exact g5⟩
    show _ = nI (if x = b ∧ 1 = 1 then c else sp_b S x 1)
    rw [po_I3 (by omega)]
    by_cases hc : x = b
    · rw [if_pos ⟨hc, rfl⟩, hc]
      exact po_I1
    · rw [if_neg (fun z => hc z.1)]
      exact (po_I4 hc).trans g2
  · obtain ⟨g1, g2, g3, g4, g5⟩ := H.2.2.1 x hx
    exact ⟨by rw [po_I3 (by omega), po_I3 (by omega)]; exact g1, by rw [po_I3 (by omega), po_I3 (by omega)]; exact g2, by rw [po_I3 (by omega), po_I3 (by omega)]; exact g3, by rw [po_I3 (by omega), po_I3 (by omega)]; exact g4, fun y hy => by rw [po_I3 (by omega), po_I3 (by omega)]; exact g5 y hy⟩
  · obtain ⟨g1, g2, g3, g4⟩ := H.2.2.2 x hx
    have e : ∀ w, w ≠ 3 → sp_ac (sp_cnt S b c) x w = sp_ac S x w := fun w hw => if_neg (fun z => hw z.2)
    rw [e 0 (by decide), e 1 (by decide), e 2 (by decide)]
    refine ⟨by rw [po_I3 (by omega), po_I3 (by omega)]; exact g1, by rw [po_I3 (by omega), po_I3 (by omega), po_I3 (by omega), po_I3 (by omega)]; exact g2, by rw [po_I3 (by omega), po_I3 (by omega)]; exact g3, ?_⟩
    show mh_I (ms_I (ms_I h (o + 4) b (nI c)) (o + 30) (sp_b S b 0) (mh_I (ms_I h (o + 4) b (nI c)) (o + 30) (sp_b S b 0) + (nI c - nI (sp_b S b 1)))) (o + 30) x = (if x = sp_b S b 0 ∧ 3 = 3 then sp_ac S x 3 + (nI c - nI (sp_b S b 1)) else sp_ac S x 3)
    by_cases hc : x = sp_b S b 0
    · rw [if_pos ⟨hc, rfl⟩, ← hc, po_I1, po_I3 (by omega), g4]
    · rw [if_neg (fun z => hc z.1), po_I4 hc, po_I3 (by omega)]
      exact g4
theorem pc_advance (hk : mm_kd o = (0, 7)) (H : sc_S S o h) (ok : sp_ok S) {d : Nat} (hd : sp_dy S + d ≤ 20000) :
    ∃ h', gX7_advance o (nI d) h = some (nI (sp_newx S d), h') ∧ sc_S (sp_adv S d) o h' ∧ po_fr (po_in o) h h' := by
  unfold gX7_advance
  rw [H.1.1, Option.bind_some, Option.bind_some, nI_add]
  have H2 : sc_S (sp_adv S d) o (ms_I h o 0 (nI (sp_dy S + d))) := by
    refine ⟨⟨po_I1, (po_I4 (by decide)).trans H.1.2.1, (po_I4 (by decide)).trans H.1.2.2⟩, fun x hx => ?_, fun x hx => ?_, fun x hx => ?_⟩
    · obtain ⟨g1, g2, g3, g4, g5⟩ := H.2.1 x hx
      exact ⟨(po_I3 (by omega)).trans g1, (po_I3 (by omega)).trans g2, (po_I3 (by omega)).trans g3, (po_I3 (by omega)).trans g4, (po_I3 (by omega)).trans g5⟩
    · obtain ⟨g1, g2, g3, g4, g5⟩ := H.2.2.1 x hx
      exact ⟨(po_I3 (by omega)).trans g1, (po_I3 (by omega)).trans g2, (po_I3 (by omega)).trans g3, (po_I3 (by omega)).trans g4, fun y hy => (po_I3 (by omega)).trans (g5 y hy)⟩
    · obtain ⟨g1, g2, g3, g4⟩ := H.2.2.2 x hx
      exact ⟨(po_I3 (by omega)).trans g1, by rw [po_I3 (by omega), po_I3 (by omega)]; exact g2, (po_I3 (by omega)).trans g3, (po_I3 (by omega)).trans g4⟩
  have ok2 := sp_adv_ok ok hd
  generalize hH : ms_I h o 0 (nI (sp_dy S + d)) = h2 at H2
  refine ⟨h2, ?_, H2, by rw [← hH]; exact po_fr_I (po_in_f (k := 0) (by decide))⟩
  refine po_loopF (fun n i s => gX7_advance_L20 o (nI (sp_dy S)) h2 n (nI s) (nI i)) (sp_nb S) (sp_sum (fun b => if 0 < sp_b S b 1 ∧ sp_dy S ≤ sp_b S b 2 ∧ sp_b S b 2 < sp_dy S + d then 1 else 0)) _ (fun n => ?_) (fun n i hi => ?_) mm_F 0 (Nat.zero_le _) (pc_nbF ok)
  · rw [gX7_advance_L20, if_neg (show ¬ nI (sp_nb S) < mh_I h2 o 1 from pc_nlt (S := sp_adv S d) H2 ok2)]
    rfl
  · have h5 := ok.2.1 i hi
    rw [gX7_advance_L20, if_pos (pc_lt H2 ok2 hi), pc_g3 hk H2 ok2 (b := i) hi]
    simp only [mm_jn, Option.bind_some, nI_1, sp_sum]
    have eb : ∀ w, sp_b (sp_adv S d) i w = sp_b S i w := fun _ => rfl
    rw [eb]
    by_cases hc : 0 < sp_b S i 1
    · rw [if_pos (po_0lt hc (by omega)), pc_g7 hk H2 ok2 (b := i) hi]
      simp only [Option.bind_some]
      rw [eb]
      by_cases hc2 : sp_b S i 2 < sp_dy S
      · rw [if_pos (nI_lt hc2 (by omega)), if_neg (fun z => by omega)]
        rfl
      · rw [if_neg (nI_nlt (by omega) (by omega)), pc_hasExp hk H2 ok2 (b := i) hi]
        simp only [Option.bind_some]
        by_cases hc3 : sp_b S i 2 < sp_dy S + d
        · rw [if_pos (decide_eq_true (show sp_b (sp_adv S d) i 2 < sp_dy (sp_adv S d) from hc3)), if_pos ⟨hc, by omega, hc3⟩]
        · rw [if_neg (by rw [decide_eq_false (show ¬ sp_b (sp_adv S d) i 2 < sp_dy (sp_adv S d) from hc3)]; decide), if_neg (fun z => hc3 z.2.2)]
          rfl
    · rw [if_neg (po_n0lt hc), if_neg (fun z => hc z.1)]
      rfl
end PPN

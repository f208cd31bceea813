section PPK
/-! a new batch, a count, days -/
theorem po_t0 : Int32.toNatClampNeg 0 = 0 := rfl
theorem po_t1 : Int32.toNatClampNeg 1 = 1 := rfl
theorem po_t2 : Int32.toNatClampNeg 2 = 2 := rfl
theorem po_t3 : Int32.toNatClampNeg 3 = 3 := rfl
def sp_add (S : sp_S) (p q e c : Nat) : sp_S :=
  ((sp_dy S, sp_nb S + 1, sp_nr S), (fun x w => if x = sp_nb S then (if w = 0 then p else if w = 1 then q else if w = 2 then e else c) else sp_b S x w), S.2.2.1, S.2.2.2.1, (fun x w => if x = p ∧ w = 0 then sp_ac S x w + nI q else sp_ac S x w))
theorem sp_held_nb {S : sp_S} (ok : sp_ok S) {b : Nat} (hb : sp_nb S ≤ b) (h20 : b < 20) : sp_held S b = 0 := sp_sum_zero (fun r hr => by
  rw [((ok.2.2 r hr).2.2.2.2.1 b h20).2 hb]
  split <;> rfl)
theorem sp_add_ok {S : sp_S} (ok : sp_ok S) {p q e c : Nat} (hn : sp_nb S < 20) (hp : p < 8) (hq : q ≤ 999) (he : e ≤ 9999) (hc : c ≤ 999) : sp_ok (sp_add S p q e c) := by
  refine ⟨⟨ok.1.1, hn, ok.1.2.2⟩, fun b hb => ?_, fun r hr => ?_⟩
  · have hb' : b < sp_nb S + 1 := hb
    by_cases hbn : b = sp_nb S
    · subst hbn
      have h1 : ∀ w, sp_b (sp_add S p q e c) (sp_nb S) w = (if w = 0 then p else if w = 1 then q else if w = 2 then e else c) := fun w => if_pos rfl
      refine ⟨by rw [h1]; exact hp, by rw [h1]; exact hq, by rw [h1]; exact he, by rw [h1]; exact hc, ?_⟩
      show sp_held S (sp_nb S) ≤ _
      rw [sp_held_nb ok (Nat.le_refl _) hn]
      exact Nat.zero_le _
    · have h1 : ∀ w, sp_b (sp_add S p q e c) b w = sp_b S b w := fun w => if_neg hbn
      obtain ⟨g1, g2, g3, g4, g5⟩ := ok.2.1 b (by omega)
      exact ⟨by rw [h1]; exact g1, by rw [h1]; exact g2, by rw [h1]; exact g3, by rw [h1]; exact g4, by rw [h1]; exact g5⟩
  · obtain ⟨g1, g2, g3, g4, g5, g6⟩ := ok.2.2 r hr
    refine ⟨g1, g2, g3, g4, fun b hb => ⟨(g5 b hb).1, fun z => (g5 b hb).2 (Nat.le_of_succ_le z)⟩, fun h3 => ?_⟩
    show sp_sum (fun b => sp_al S r b) (sp_nb S) + sp_al S r (sp_nb S) ≤ sp_r S r 1
    rw [(g5 (sp_nb S) hn).2 (Nat.le_refl _)]
    exact g6 h3
variable {S : sp_S} {o : Nat} {h : mm_H}
theorem pc_add (hk : mm_kd o = (0, 7)) (H : sc_S S o h) (ok : sp_ok S) {p q e c : Nat} (hn : sp_nb S < 20) (hp : p < 8) :
    ∃ h', gX7_addBatch o (nI p) (nI q) (nI e) (nI c) h = some (nI (sp_nb S), h') ∧ sc_S (sp_add S p q e c) o h' ∧ po_fr (po_in o) h h' := by
  unfold gX7_addBatch
  obtain ⟨⟨c1, c3, c5, c7, c9⟩, -, c21, -⟩ := po_cap7 hk
  rw [H.1.2.1]
  simp only [Option.bind_some]
  rw [po_put (by rw [c1]; exact hn) (by rw [c1]; decide)]
  simp only [Option.bind_some]
  rw [po_put (by rw [c3]; exact hn) (by rw [c3]; decide)]
  simp only [Option.bind_some]
  rw [po_put (by rw [c5]; exact hn) (by rw [c5]; decide)]
  simp only [Option.bind_some]
  rw [po_put (by rw [c7]; exact hn) (by rw [c7]; decide)]
  simp only [Option.bind_some]
  rw [po_put (by rw [c9]; exact hn) (by rw [c9]; decide)]
  simp only [Option.bind_some]
  rw [po_add (by rw [c21]; exact hp) (by rw [c21]; decide)]
  simp only [Option.bind_some]
  refine ⟨_, rfl, ⟨⟨?_, ?_, ?_⟩, fun x hx => ?_, fun x hx => ?_, fun x hx => ?_⟩, ?_⟩
  · rw [po_I3 (by omega), po_I4 (by omega)]
    repeat rw [po_I3 (by omega)]
    exact H.1.1
  · rw [po_I3 (by omega), po_I1]
    repeat rw [po_I3 (by omega)]
    rw [H.1.2.1, nI_1]
    rfl
  · rw [po_I3 (by omega), po_I4 (by omega)]
    repeat rw [po_I3 (by omega)]
    exact H.1.2.2
  · have hx' : x < sp_nb S + 1 := hx
    by_cases hxn : x = sp_nb S
    · subst hxn
      have h1 : ∀ w, sp_b (sp_add S p q e c) (sp_nb S) w = (if w = 0 then p else if w = 1 then q else if w = 2 then e else c) := fun w => if_pos rfl
      have h2 : sp_held (sp_add S p q e c) (sp_nb S) = 0 := sp_held_nb ok (Nat.le_refl _) hn
      rw [h1, h1, h1, h1, h2]
      refine ⟨?_, ?_, ?_, ?_, ?_⟩
      · repeat rw [po_I3 (by omega)]
        exact po_I1
      · repeat rw [po_I3 (by omega)]
        exact po_I1
      · repeat rw [po_I3 (by omega)]
        exact po_I1
      · repeat rw [po_I3 (by omega)]
        exact po_I1
      · repeat rw [po_I3 (by omega)]
        exact po_I1
    · have h1 : ∀ w, sp_b (sp_add S p q e c) x w = sp_b S x w := fun w => if_neg hxn
      obtain ⟨g1, g2, g3, g4, g5⟩ := H.2.1 x (by omega)
      rw [h1, h1, h1, h1]
      refine ⟨?_, ?_, ?_, ?_, ?_⟩
      · repeat rw [po_I3 (by omega)]
        rw [po_I4 hxn]
        exact g1
      · repeat rw [po_I3 (by omega)]
        rw [po_I4 hxn]
        repeat rw [po_I3 (by omega)]
        exact g2
      · repeat rw [po_I3 (by omega)]
        rw [po_I4 hxn]
        repeat rw [po_I3 (by omega)]
        exact g3
      · repeat rw [po_I3 (by omega)]
        rw [po_I4 hxn]
        repeat rw [po_I3 (by omega)]
        exact g4
      · repeat rw [po_I3 (by omega)]
        rw [po_I4 hxn]
        repeat rw [po_I3 (by omega)]
        exact g5
  · obtain ⟨g1, g2, g3, g4, g5⟩ := H.2.2.1 x hx
    refine ⟨?_, ?_, ?_, ?_, fun y hy => ?_⟩ <;> repeat rw [po_I3 (by omega)]
    · exact g1
    · exact g2
    · exact g3
    · exact g4
    · exact g5 y hy
  · obtain ⟨g1, g2, g3, g4⟩ := H.2.2.2 x hx
    have h1 : ∀ w, w ≠ 0 → sp_ac (sp_add S p q e c) x w = sp_ac S x w := fun w hw => if_neg (fun z => hw z.2)
    refine ⟨?_, ?_, ?_, ?_⟩
    · show _ = (if x = p ∧ 0 = 0 then sp_ac S x 0 + nI q else sp_ac S x 0)
      by_cases hxp : x = p
      · subst hxp
        rw [if_pos ⟨rfl, rfl⟩, po_I1]
        repeat rw [po_I3 (by omega)]
        rw [← g1]
      · rw [if_neg (fun z => hxp z.1), po_I4 hxp]
        repeat rw [po_I3 (by omega)]
        exact g1
    · rw [h1 1 (by decide)]
      repeat rw [po_I3 (by omega)]
      exact g2
    · rw [h1 2 (by decide)]
      repeat rw [po_I3 (by omega)]
      exact g3
    · rw [h1 3 (by decide)]
      repeat rw [po_I3 (by omega)]
      exact g4
  · exact po_fr_trans (po_fr_trans (po_fr_trans (po_fr_trans (po_fr_trans (po_fr_trans (po_fr_I (po_in_f (k := 2) (by decide))) (po_fr_I (po_in_f (k := 4) (by decide)))) (po_fr_I (po_in_f (k := 6) (by decide)))) (po_fr_I (po_in_f (k := 8) (by decide)))) (po_fr_I (po_in_f (k := 10) (by decide)))) (po_fr_I (po_in_f (k := 0) (by decide)))) (po_fr_I (po_in_f (k := 22) (by decide)))
/-- the reference clears the batch's column of allocations -/
theorem pm_clear {b : Nat} (hb : b < 20) (H9 : mm_H) : ∃ h', gX11_receiveIt_L52 (nI b) mm_F 0 H9 = (if mm_ibd 2 4200 = true then if mm_ibd 2 4200 = true then (some (ms_I h' 353 (Int32.toNatClampNeg (2)) (((mh_I h' 353 (Int32.toNatClampNeg (2))) + 1)))).bind (fun (h19 : mm_H) => some (nI b, h19)) else none else none) ∧
    po_fx H9 h' ∧ (∀ r, r < 10 → mh_I h' 353 (180 + 24 * r + (4 + b)) = 0) ∧ (∀ j, (∀ r, r < 10 → j ≠ 180 + 24 * r + (4 + b)) → mh_I h' 353 j = mh_I H9 353 j) := by
  have key : ∀ n i h1, i ≤ 10 → 10 - i < n → po_fx H9 h1 → (∀ r, r < i → mh_I h1 353 (180 + 24 * r + (4 + b)) = 0) → (∀ j, (∀ r, r < 10 → j ≠ 180 + 24 * r + (4 + b)) → mh_I h1 353 j = mh_I H9 353 j) →
      ∃ h', gX11_receiveIt_L52 (nI b) n (nI i) h1 = (if mm_ibd 2 4200 = true then if mm_ibd 2 4200 = true then (some (ms_I h' 353 (Int32.toNatClampNeg (2)) (((mh_I h' 353 (Int32.toNatClampNeg (2))) + 1)))).bind (fun (h19 : mm_H) => some (nI b, h19)) else none else none) ∧
        po_fx H9 h' ∧ (∀ r, r < 10 → mh_I h' 353 (180 + 24 * r + (4 + b)) = 0) ∧ (∀ j, (∀ r, r < 10 → j ≠ 180 + 24 * r + (4 + b)) → mh_I h' 353 j = mh_I H9 353 j) := by
    intro n
    induction n with
    | zero => intro i h1 _ h9; omega
    | succ n ih =>
      intro i h1 hi hn hf h2 h3
      rw [gX11_receiveIt_L52]
      by_cases hc : i < 10
      · rw [if_pos (show nI i < 10 from nI_lt hc (by decide)), pm_setR (w := 4 + b) (by rw [← nI_add]; rfl) (by omega) (by omega)]
        simp only [Option.bind_some, nI_1]
        refine ih (i + 1) _ (by omega) (by omega) (po_fx_trans hf (po_fx_I (po_kp (by first | omega | decide)))) (fun r hr => ?_) (fun j hj => ?_)
        · by_cases hri : r = i
          · subst hri
            exact po_I1
          · rw [po_I4 (by omega)]
            exact h2 r (by omega)
        · rw [po_I4 (hj i hc)]
          exact h3 j hj
      · rw [if_neg (show ¬ nI i < 10 from nI_nlt (b := 10) (by omega) (by omega))]
        exact ⟨h1, rfl, hf, fun r hr => h2 r (by omega), h3⟩
  exact key mm_F 0 H9 (by omega) (by decide) (po_fx_refl _) (fun r hr => absurd hr (Nat.not_lt_zero _)) (fun j _ => rfl)
theorem pm_add (H : sm_S S 0 h) (ok : sp_ok S) {p q e c : Nat} (hn : sp_nb S < 20) (hp : p < 8) :
    ∃ h', gX11_receiveIt (nI p) (nI q) (nI e) (nI c) h = some (nI (sp_nb S), h') ∧ sm_S (sp_add S p q e c) 0 h' ∧ po_fx h h' := by
  unfold gX11_receiveIt
  rw [if_pos po_m2, pm_nb H]
  rw [Option.bind_some]
  rw [pm_setB (x := 0) (w := 0) rfl (by omega) (by decide)]
  rw [Option.bind_some]
  rw [pm_setB (x := 1) (w := 1) rfl (by omega) (by decide)]
  rw [Option.bind_some]
  rw [pm_setB (x := 2) (w := 2) rfl (by omega) (by decide)]
  rw [Option.bind_some]
  rw [pm_setB (x := 3) (w := 3) rfl (by omega) (by decide)]
  rw [Option.bind_some]
  rw [pm_note (x := 8) (w := 8) rfl (by omega) (by decide)]
  rw [Option.bind_some]
  generalize hH9 : ms_I (ms_I (ms_I (ms_I (ms_I h 353 (100 + 4 * sp_nb S + 0) (nI p)) 353 (100 + 4 * sp_nb S + 1) (nI q)) 353 (100 + 4 * sp_nb S + 2) (nI e)) 353 (100 + 4 * sp_nb S + 3) (nI c)) 353 (4 + 12 * p + 8) (mh_I (ms_I (ms_I (ms_I (ms_I h 353 (100 + 4 * sp_nb S + 0) (nI p)) 353 (100 + 4 * sp_nb S + 1) (nI q)) 353 (100 + 4 * sp_nb S + 2) (nI e)) 353 (100 + 4 * sp_nb S + 3) (nI c)) 353 (4 + 12 * p + 8) + nI q) = H9
  obtain ⟨h1, e1, f1, z1, k1⟩ := pm_clear (b := sp_nb S) hn H9
  rw [e1, if_pos po_m2, if_pos po_m2, po_t2]
  -- cells of H9
  have kH : ∀ j, (∀ w, w < 4 → j ≠ 100 + 4 * sp_nb S + w) → j ≠ 4 + 12 * p + 8 → mh_I H9 353 j = mh_I h 353 j := fun j hj hj2 => by
    have a0 := hj 0 (by decide)
    have a1 := hj 1 (by decide)
    have a2 := hj 2 (by decide)
    have a3 := hj 3 (by decide)
    rw [← hH9, po_I4 hj2, po_I4 a3, po_I4 a2, po_I4 a1, po_I4 a0]
  have kB : ∀ w, w < 4 → mh_I H9 353 (100 + 4 * sp_nb S + w) = nI (if w = 0 then p else if w = 1 then q else if w = 2 then e else c) := fun w hw => by
    rw [← hH9, po_I4 (by omega)]
    by_cases h3 : w = 3
    · subst h3; exact po_I1
    · rw [po_I4 (by omega)]
      by_cases h2 : w = 2
      · subst h2; exact po_I1
      · rw [po_I4 (by omega)]
        by_cases h1 : w = 1
        · subst h1; exact po_I1
        · have h0 : w = 0 := by omega
          subst h0
          rw [po_I4 (by omega)]
          exact po_I1
  have kA : mh_I H9 353 (4 + 12 * p + 8) = mh_I h 353 (4 + 12 * p + 8) + nI q := by
    rw [← hH9, po_I1]
    repeat rw [po_I4 (by omega)]
  have hfr9 : po_fx h H9 := by
    rw [← hH9]
    exact po_fx_trans (po_fx_trans (po_fx_trans (po_fx_trans (po_fx_I (po_kp (by first | omega | decide))) (po_fx_I (po_kp (by first | omega | decide)))) (po_fx_I (po_kp (by first | omega | decide)))) (po_fx_I (po_kp (by first | omega | decide)))) (po_fx_I (po_kp (by first | omega | decide)))
  have hn20 := ok.1.2.1
  refine ⟨_, rfl, ⟨⟨?_, ?_, ?_⟩, fun x hx w hw => ?_, fun r hr => ⟨fun w hw => ?_, fun y hy => ?_⟩, fun x hx w hw => ?_⟩, po_fx_trans hfr9 (po_fx_trans f1 (po_fx_I (po_kp (by first | omega | decide))))⟩
  · rw [po_I4 (show 420 * 0 ≠ 2 by decide), k1 _ (fun r hr => by omega), kH _ (fun w hw => by omega) (by omega)]
    exact H.1.1
  · show mh_I (ms_I h1 353 2 (mh_I h1 353 2 + 1)) 353 2 = nI (sp_nb S + 1)
    rw [po_I1, k1 _ (fun r hr => by omega), kH _ (fun w hw => by omega) (by omega), ← nI_1]
    exact congrArg (· + 1) H.1.2.1
  · rw [po_I4 (show 420 * 0 + 3 ≠ 2 by decide), k1 _ (fun r hr => by omega), kH _ (fun w hw => by omega) (by omega)]
    exact H.1.2.2
  · have hx' : x < sp_nb S + 1 := hx
    rw [po_I4 (show 420 * 0 + 100 + 4 * x + w ≠ 2 by omega), k1 _ (fun r hr => by omega)]
    by_cases hxn : x = sp_nb S
    · subst hxn
      rw [show 420 * 0 + 100 + 4 * sp_nb S + w = 100 + 4 * sp_nb S + w by omega, kB w hw]
      exact congrArg nI (if_pos rfl).symm
    · rw [kH _ (fun w' hw' => by omega) (by omega), H.2.1 x (by omega) w hw]
      exact congrArg nI (if_neg hxn).symm
  · have hr10 := pc_r10 ok (show r < sp_nr S from hr)
    rw [po_I4 (show 420 * 0 + 180 + 24 * r + w ≠ 2 by omega), k1 _ (fun r' hr' => by omega), kH _ (fun w' hw' => by omega) (by omega)]
    exact (H.2.2.1 r hr).1 w hw
  · have hr10 := pc_r10 ok (show r < sp_nr S from hr)
    rw [po_I4 (show 420 * 0 + 184 + 24 * r + y ≠ 2 by omega)]
    by_cases hyn : y = sp_nb S
    · subst hyn
      rw [show 420 * 0 + 184 + 24 * r + sp_nb S = 180 + 24 * r + (4 + sp_nb S) by omega, z1 r hr10]
      exact congrArg nI (((ok.2.2 r hr).2.2.2.2.1 (sp_nb S) hn).2 (Nat.le_refl _)).symm
    · rw [k1 _ (fun r' hr' => by omega), kH _ (fun w' hw' => by omega) (by omega)]
      exact (H.2.2.1 r hr).2 y hy
  · rw [po_I4 (show 420 * 0 + 12 + 12 * x + w ≠ 2 by omega), k1 _ (fun r hr => by omega)]
    show _ = (if x = p ∧ w = 0 then sp_ac S x w + nI q else sp_ac S x w)
    by_cases hc : x = p ∧ w = 0
    · obtain ⟨rfl, rfl⟩ := hc
      rw [if_pos ⟨rfl, rfl⟩, show 420 * 0 + 12 + 12 * x + 0 = 4 + 12 * x + 8 by omega, kA]
      have := H.2.2.2 x hx 0 hw
      rw [show 420 * 0 + 12 + 12 * x + 0 = 4 + 12 * x + 8 by omega] at this
      rw [this]
    · rw [if_neg hc, kH _ (fun w' hw' => by omega) (by omega)]
      exact H.2.2.2 x hx w hw
end PPK

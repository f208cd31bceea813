section PPK
/-! a new batch, a count, days -/
theorem po_t0 : Int32.toNatClampNeg 0 = 0 := rfl
theorem po_t1 : Int32.toNatClampNeg 1 = 1 := rfl
theorem po_t2 : Int32.toNatClampNeg 2 = 2 := rfl
theorem po_t3 : Int32.toNatClampNeg 3 = 3 := rfl
def sp_add (S : sp_S) (p q e c : Nat) : sp_S :=
  ((sp_dy S, sp_nb S + 1, sp_nr S), (fun x w => if x = sp_nb S then (if w = 0 then p else if w = 1 then q else if w = 2 then e else c) else sp_b S x w), S.2.2.1, S.2.2.2.1, (fun x w => if x = p ∧ w = 0 then sp_ac S x w + nI q else sp_ac S x w))
theorem sp_held_nb {S : sp_S} (ok : sp_ok S) {b : Nat} (hb : sp_nb S ≤ b) (h20 : b < 20) : sp_held S b = 0 := sp_sum_zero (fun r hr => by
  rw [((ok.2.2 r hr).2.2.2.2.1 b h20).2 hb]
  split <;> rfl)
theorem sp_add_ok {S : sp_S} (ok : sp_ok S) {p q e c : Nat} (hn : sp_nb S < 20) (hp : p < 8) (hq : q ≤ 999) (he : e ≤ 9999) (hc : c ≤ 999) : sp_ok (sp_add S p q e c) := by
  refine ⟨⟨ok.1.1, hn, ok.1.2.2⟩, fun b hb => ?_, fun r hr => ?_⟩
  · have hb' : b < sp_nb S + 1 := hb
    by_cases hbn : b = sp_nb S
    · subst hbn
      have h1 : ∀ w, sp_b (sp_add S p q e c) (sp_nb S) w = (if w = 0 then p else if w = 1 then q else if w = 2 then e else c) := fun w => if_pos rfl
      refine ⟨by rw [h1]; exact hp, by rw [h1]; exact hq, by rw [h1]; exact he, by rw [h1]; exact hc, ?_⟩
      show sp_held S (sp_nb S) ≤ _
      rw [sp_held_nb ok (Nat.le_refl _) hn]
      exact Nat.zero_le _
    · have h1 : ∀ w, sp_b (sp_add S p q e c) b w = sp_b S b w := fun w => if_neg hbn
      obtain ⟨g1, g2, g3, g4, g5⟩ := ok.2.1 b (by omega)
      exact ⟨by rw [h1]; exact g1, by rw [h1]; exact g2, by rw [h1]; exact g3, by rw [h1]; exact g4, by rw [h1]; exact g5⟩
  · obtain ⟨g1, g2, g3, g4, g5, g6⟩ := ok.2.2 r hr
    refine ⟨g1, g2, g3, g4, fun b hb => ⟨(g5 b hb).1, fun z => (g5 b hb).2 (Nat.le_of_succ_le z)⟩, fun h3 => ?_⟩
    show sp_sum (fun b => sp_al S r b) (sp_nb S) + sp_al S r (sp_nb S) ≤ sp_r S r 1
    rw [(g5 (sp_nb S) hn).2 (Nat.le_refl _)]
    exact g6 h3
variable {S : sp_S} {o : Nat} {h : mm_H}
theorem pc_add (hk : mm_kd o = (0, 7)) (H : sc_S S o h) (ok : sp_ok S) {p q e c : Nat} (hn : sp_nb S < 20) (hp : p < 8) :
    ∃ h', gX7_addBatch o (nI p) (nI q) (nI e) (nI c) h = some (nI (sp_nb S), h') ∧ sc_S (sp_add S p q e c) o h' ∧ po_fr (po_in o) h h' := by
  unfold gX7_addBatch
  obtain ⟨⟨c1, c3, c5, c7, c9⟩, -, c21, -⟩ := po_cap7 hk
  rw [H.1.2.1]
  simp only [Option.bind_some]
  rw [po_put (by rw [c1]; exact hn) (by rw [c1]; decide)]
  simp only [Option.bind_some]
  rw [po_put (by rw [c3]; exact hn) (by rw [c3]; decide)]
  simp only [Option.bind_some]
  rw [po_put (by rw [c5]; exact hn) (by rw [c5]; decide)]
  simp only [Option.bind_some]
  rw [po_put (by rw [c7]; exact hn) (by rw [c7]; decide)]
  simp only [Option.bind_some]
  rw [po_put (by rw [c9]; exact hn) (by rw [c9]; decide)]
  simp only [Option.bind_some]
  rw [po_add (by rw [c21]; exact hp) (by rw [c21]; decide)]
  simp only [Option.bind_some]
  refine ⟨_, rfl, ⟨⟨?_, ?_, ?_⟩, fun x hx => ?_, fun x hx => ?_, fun x hx => ?_⟩, ?_⟩
  · rw [po_I3 (by omega), po_I4 (by omega)]
    repeat rw [po_I3 (by omega)]
    exact H.1.1
  · rw [po_I3 (by omega), po_I1]
    repeat rw [po_I3 (by omega)]
    rw [H.1.2.1, nI_1]
    rfl
  · rw [po_I3 (by omega), po_I4 (by omega)]
    repeat rw [po_I3 (by omega)]
    exact H.1.2.2
  · have hx' : x < sp_nb S + 1 := hx
    by_cases hxn : x = sp_nb S
    · subst hxn
      have h1 : ∀ w, sp_b (sp_add S p q e c) (sp_nb S) w = (if w = 0 then p else if w = 1 then q else if w = 2 then e else c) := fun w => if_pos rfl
      have h2 : sp_held (sp_add S p q e c) (sp_nb S) = 0 := sp_held_nb ok (Nat.le_refl _) hn
      rw [h1, h1, h1, h1, h2]
      refine ⟨?_, ?_, ?_, ?_, ?_⟩
      · repeat rw [po_I3 (by omega)]
        exact po_I1
      · repeat rw [po_I3 (by omega)]
        exact po_I1
      · repeat rw [po_I3 (by omega)]
        exact po_I1
      · repeat rw [po_I3 (by omega)]
        exact po_I1
      · repeat rw [po_I3 (by omega)]
        exact po_I1
    · have h1 : ∀ w, sp_b (sp_add S p q e c) x w = sp_b S x w := fun w => if_neg hxn
      obtain ⟨g1, g2, g3, g4, g5⟩ := H.2.1 x (by omega)
      rw [h1, h1, h1, h1]
      refine ⟨?_, ?_, ?_, ?_, ?_⟩
      · repeat rw [po_I3 (by omega)]
        rw [po_I4 hxn]
        exact g1
      · repeat rw [po_I3 (by omega)]
        rw [po_I4 hxn]
        repeat rw [po_I3 (by omega)]
        exact g2
      · repeat rw [po_I3 (by omega)]
        rw [po_I4 hxn]
        repeat rw [po_I3 (by omega)]
        exact g3
      · repeat rw [po_I3 (by omega)]
        rw [po_I4 hxn]
        repeat rw [po_I3 (by omega)]
        exact g4
      · repeat rw [po_I3 (by omega)]
        rw [po_I4 hxn]
        repeat rw [po_I3 (by omega)]
        exact g5
  · obtain ⟨g1, g2, g3, g4, g5⟩ := H.2.2.1 x hx
    refine ⟨?_, ?_, ?_, ?_, fun y hy => ?_⟩ <;> repeat rw [po_I3 (by omega)]
    · exact g1
    · exact g2
    · exact g3
    · exact g4
    · exact g5 y hy
  · obtain ⟨g1, g2, g3, g4⟩ := H.2.2.2 x hx
    have h1 : ∀ w, w ≠ 0 → sp_ac (sp_add S p q e c) x w = sp_ac S x w := fun w hw => if_neg (fun z => hw z.2)
    refine ⟨?_, ?_, ?_, ?_⟩
    · show _ = (if x = p ∧ 0 = 0 then sp_ac S x 0 + nI q else sp_ac S x 0)
      by_cases hxp : x = p
      · subst hxp
        rw [if_pos ⟨rfl, rfl⟩, po_I1]
        repeat rw [po_I3 (by omega)]
        rw [← g1]
      · rw [if_neg (fun z => hxp z.1), po_I4 hxp]
        repeat rw [po_I3 (by omega)]
        exact g1
    · rw [h1 1 (by decide)]
      repeat rw [po_I3 (by omega)]
      exact g2
    · rw [h1 2 (by decide)]
      repeat rw [po_I3 (by omega)]
      exact g3
    · rw [h1 3 (by decide)]
      repeat rw [po_I3 (by omega)]
      exact g4
  · exact po_fr_trans (po_fr_trans (po_fr_trans (po_fr_trans (po_fr_trans (po_fr_trans (po_fr_I (po_in_f (k := 2) (by decide))) (po_fr_I (po_in_f (k := 4) (by decide)))) (po_fr_I (po_in_f (k := 6) (by decide)))) (po_fr_I (po_in_f (k := 8) (by decide)))) (po_fr_I (po_in_f (k := 10) (by decide)))) (po_fr_I (po_in_f (k := 0) (by decide)))) (po_fr_I (po_in_f (k := 22) (by decide)))
end PPK

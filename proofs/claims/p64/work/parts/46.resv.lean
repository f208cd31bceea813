section PPR
/-! a new reservation, both sides -/
variable {S : sp_S} {o : Nat} {h : mm_H}
theorem pc_resv_L (hk : mm_kd o = (0, 7)) {r : Nat} (hr : r < 10) : ∃ h', gX7_addReservation_L50 o (nI r) mm_F 0 h = (some (ms_I h' o 7 (((mh_I h' o 7) + 1)))).bind (fun (h14 : mm_H) => (gX7_refillReservation o (nI r) h14).bind (fun (x15 : (Int32 × mm_H)) => some (nI r, x15.2))) ∧
    (∀ b, b < 20 → mh_I h' (o + 20) (20 * r + b) = 0) ∧ (∀ j, (∀ b, b < 20 → j ≠ 20 * r + b) → mh_I h' (o + 20) j = mh_I h (o + 20) j) ∧ po_fr (fun z => z == o + 20) h h' := by
  have key : ∀ n i h2, i ≤ 20 → 20 - i < n → (∀ b, b < i → mh_I h2 (o + 20) (20 * r + b) = 0) → (∀ j, (∀ b, b < 20 → j ≠ 20 * r + b) → mh_I h2 (o + 20) j = mh_I h (o + 20) j) → po_fr (fun z => z == o + 20) h h2 →
      ∃ h', gX7_addReservation_L50 o (nI r) n (nI i) h2 = (some (ms_I h' o 7 (((mh_I h' o 7) + 1)))).bind (fun (h14 : mm_H) => (gX7_refillReservation o (nI r) h14).bind (fun (x15 : (Int32 × mm_H)) => some (nI r, x15.2))) ∧
        (∀ b, b < 20 → mh_I h' (o + 20) (20 * r + b) = 0) ∧ (∀ j, (∀ b, b < 20 → j ≠ 20 * r + b) → mh_I h' (o + 20) j = mh_I h (o + 20) j) ∧ po_fr (fun z => z == o + 20) h h' := by
    intro n
    induction n with
    | zero => intro i h2 _ h9; omega
    | succ n ih =>
      intro i h2 hi hn h3 h4 hf
      rw [gX7_addReservation_L50]
      by_cases hlt : i < 20
      · rw [if_pos (show nI i < 20 from nI_lt hlt (by decide)), pc_ix, po_put (by rw [(po_cap7 hk).2.1.2.2.2.2]; omega) (by rw [(po_cap7 hk).2.1.2.2.2.2]; decide), Option.bind_some, Option.bind_some, nI_1]
        refine ih (i + 1) _ (by omega) (by omega) (fun b hb => ?_) (fun j hj => ?_) (po_fr_trans hf (po_fr_I (by simp)))
        · show mh_I (ms_I h2 (o + 20) (20 * r + i) 0) (o + 20) (20 * r + b) = 0
          by_cases hbi : b = i
          · rw [hbi, po_I1]
          · rw [po_I4 (by omega)]
            exact h3 b (by omega)
        · show mh_I (ms_I h2 (o + 20) (20 * r + i) 0) (o + 20) j = _
          rw [po_I4 (hj i hlt)]
          exact h4 j hj
      · rw [if_neg (show ¬ nI i < 20 from nI_nlt (b := 20) (by omega) (by omega))]
        exact ⟨h2, rfl, fun b hb => h3 b (by omega), h4, hf⟩
  exact key mm_F 0 h (by omega) (by decide) (fun b hb => absurd hb (Nat.not_lt_zero _)) (fun j _ => rfl) (po_fr_refl h)
theorem pc_reserve (hk : mm_kd o = (0, 7)) (H : sc_S S o h) (ok : sp_ok S) {p q d : Nat} (hn : sp_nr S < 10) (hp : p < 8) (hq : q ≤ 9999) (hd : d ≤ 9999) :
    ∃ h', gX7_addReservation o (nI p) (nI q) (nI d) h = some (nI (sp_nr S), h') ∧ sc_S (sp_resrv S p q d) o h' ∧ po_fr (fun z => po_od z || po_in o z) h h' := by
  unfold gX7_addReservation
  obtain ⟨-, ⟨c11, c13, c15, c17, c19⟩, -⟩ := po_cap7 hk
  rw [H.1.2.2, Option.bind_some, po_put (by rw [c11]; exact hn) (by rw [c11]; decide), Option.bind_some, po_put (by rw [c13]; exact hn) (by rw [c13]; decide), Option.bind_some, po_put (by rw [c15]; exact hn) (by rw [c15]; decide), Option.bind_some, po_put (by rw [c17]; exact hn) (by rw [c17]; decide), Option.bind_some]
  generalize hH1 : ms_I (ms_I (ms_I (ms_I h (o + 11 + 1) (sp_nr S) (nI p)) (o + 13 + 1) (sp_nr S) (nI q)) (o + 15 + 1) (sp_nr S) (nI d)) (o + 17 + 1) (sp_nr S) 0 = H1
  obtain ⟨h2, e1, e2, e3, e4⟩ := pc_resv_L (h := H1) hk hn
  rw [e1, Option.bind_some]
  have kg : ∀ k, k ≠ 20 → ∀ j, mh_I h2 (o + k) j = mh_I H1 (o + k) j := fun k h20 j => e4.1 _ (by simp; omega) j
  have kk : ∀ k, k ≠ 12 → k ≠ 14 → k ≠ 16 → k ≠ 18 → ∀ j, mh_I H1 (o + k) j = mh_I h (o + k) j := fun k a b c d j => by
    rw [← hH1, po_I3 (by omega), po_I3 (by omega), po_I3 (by omega), po_I3 (by omega)]
  have k12 : ∀ j, mh_I H1 (o + 12) j = if j = sp_nr S then nI p else mh_I h (o + 12) j := fun j => by
    rw [← hH1, po_I3 (by omega), po_I3 (by omega), po_I3 (by omega)]
    by_cases hj : j = sp_nr S
    · rw [if_pos hj, hj]; exact po_I1
    · rw [if_neg hj]; exact po_I4 hj
  have k14 : ∀ j, mh_I H1 (o + 14) j = if j = sp_nr S then nI q else mh_I h (o + 14) j := fun j => by
    rw [← hH1, po_I3 (by omega), po_I3 (by omega)]
    by_cases hj : j = sp_nr S
    · rw [if_pos hj, hj]; exact po_I1
    · rw [if_neg hj]; exact (po_I4 hj).trans (po_I3 (by omega))
  have k16 : ∀ j, mh_I H1 (o + 16) j = if j = sp_nr S then nI d else mh_I h (o + 16) j := fun j => by
    rw [← hH1, po_I3 (by omega)]
    by_cases hj : j = sp_nr S
    · rw [if_pos hj, hj]; exact po_I1
    · rw [if_neg hj]; exact (po_I4 hj).trans ((po_I3 (by omega)).trans (po_I3 (by omega)))
  have k18 : ∀ j, mh_I H1 (o + 18) j = if j = sp_nr S then 0 else mh_I h (o + 18) j := fun j => by
    rw [← hH1]
    by_cases hj : j = sp_nr S
    · rw [if_pos hj, hj]; exact po_I1
    · rw [if_neg hj]; exact (po_I4 hj).trans ((po_I3 (by omega)).trans ((po_I3 (by omega)).trans (po_I3 (by omega))))
  have f1 : po_fr (po_in o) h H1 := by
    rw [← hH1]
    exact po_fr_trans (po_fr_trans (po_fr_trans (po_fr_I (po_in_f (k := 12) (by decide))) (po_fr_I (po_in_f (k := 14) (by decide)))) (po_fr_I (po_in_f (k := 16) (by decide)))) (po_fr_I (po_in_f (k := 18) (by decide)))
  have f2 : po_fr (po_in o) H1 h2 := po_fr_mono e4 (fun z hz => by have := of_decide_eq_false hz; simp; omega)
  have enr : mh_I h2 o 7 = nI (sp_nr S) := (kg 0 (by decide) 7).trans ((kk 0 (by decide) (by decide) (by decide) (by decide) 7).trans H.1.2.2)
  have H3 : sc_S (sp_addr S p q d) o (ms_I h2 o 7 (mh_I h2 o 7 + 1)) := by
    have kz : ∀ k, 0 < k → ∀ j, mh_I (ms_I h2 o 7 (mh_I h2 o 7 + 1)) (o + k) j = mh_I h2 (o + k) j := fun k h0 j => po_I3 (by omega)
    refine ⟨⟨?_, ?_, ?_⟩, fun x hx => ?_, fun x hx => ?_, fun x hx => ?_⟩
    · rw [po_I4 (by decide)]
      exact (kg 0 (by decide) 0).trans ((kk 0 (by decide) (by decide) (by decide) (by decide) 0).trans H.1.1)
    · rw [po_I4 (by decide)]
      exact (kg 0 (by decide) 1).trans ((kk 0 (by decide) (by decide) (by decide) (by decide) 1).trans H.1.2.1)
    · rw [po_I1, enr, nI_1]
      rfl
    · obtain ⟨g1, g2, g3, g4, g5⟩ := H.2.1 x hx
      have kq : ∀ k, 0 < k → k ≠ 20 → k ≠ 12 → k ≠ 14 → k ≠ 16 → k ≠ 18 → mh_I (ms_I h2 o 7 (mh_I h2 o 7 + 1)) (o + k) x = mh_I h (o + k) x := fun k h0 a b c d e => (kz k h0 x).trans ((kg k a x).trans (kk k b c d e x))
      rw [sp_addr_held]
      exact ⟨(kq 2 (by decide) (by decide) (by decide) (by decide) (by decide) (by decide)).trans g1, (kq 4 (by decide) (by decide) (by decide) (by decide) (by decide) (by decide)).trans g2, (kq 6 (by decide) (by decide) (by decide) (by decide) (by decide) (by decide)).trans g3, (kq 8 (by decide) (by decide) (by decide) (by decide) (by decide) (by decide)).trans g4, (kq 10 (by decide) (by decide) (by decide) (by decide) (by decide) (by decide)).trans g5⟩
    · have hx' : x < sp_nr S + 1 := hx
      rw [kz 12 (by decide), kz 14 (by decide), kz 16 (by decide), kz 18 (by decide), kg 12 (by decide), kg 14 (by decide), kg 16 (by decide), kg 18 (by decide), k12, k14, k16, k18]
      by_cases hxn : x = sp_nr S
      · subst hxn
        have e : ∀ w, sp_r (sp_addr S p q d) (sp_nr S) w = (if w = 0 then p else if w = 1 then q else if w = 2 then d else 0) := fun w => if_pos rfl
        have ea : ∀ y, sp_al (sp_addr S p q d) (sp_nr S) y = 0 := fun y => if_pos rfl
        rw [e, e, e, e]
        exact ⟨if_pos rfl, if_pos rfl, if_pos rfl, if_pos rfl, fun y hy => by rw [kz 20 (by decide), ea]; exact e2 y hy⟩
      · have e : ∀ w, sp_r (sp_addr S p q d) x w = sp_r S x w := fun w => if_neg hxn
        have ea : ∀ y, sp_al (sp_addr S p q d) x y = sp_al S x y := fun y => if_neg hxn
        obtain ⟨g1, g2, g3, g4, g5⟩ := H.2.2.1 x (by omega)
        rw [e, e, e, e, if_neg hxn, if_neg hxn, if_neg hxn, if_neg hxn]
        refine ⟨g1, g2, g3, g4, fun y hy => ?_⟩
        rw [kz 20 (by decide), ea, e3 _ (fun b hb => by omega), kk 20 (by decide) (by decide) (by decide) (by decide)]
        exact g5 y hy
    · obtain ⟨g1, g2, g3, g4⟩ := H.2.2.2 x hx
      have kq : ∀ k, 0 < k → k ≠ 20 → k ≠ 12 → k ≠ 14 → k ≠ 16 → k ≠ 18 → mh_I (ms_I h2 o 7 (mh_I h2 o 7 + 1)) (o + k) x = mh_I h (o + k) x := fun k h0 a b c d e => (kz k h0 x).trans ((kg k a x).trans (kk k b c d e x))
      exact ⟨(kq 22 (by decide) (by decide) (by decide) (by decide) (by decide) (by decide)).trans g1, by rw [kq 24 (by decide) (by decide) (by decide) (by decide) (by decide) (by decide), kq 26 (by decide) (by decide) (by decide) (by decide) (by decide) (by decide)]; exact g2, (kq 28 (by decide) (by decide) (by decide) (by decide) (by decide) (by decide)).trans g3, (kq 30 (by decide) (by decide) (by decide) (by decide) (by decide) (by decide)).trans g4⟩
  have ok3 := sp_addr_ok ok (p := p) (q := q) (d := d) hn hp hq hd
  have f3 : po_fr (po_in o) h (ms_I h2 o 7 (mh_I h2 o 7 + 1)) := po_fr_trans (po_fr_trans f1 f2) (po_fr_I (po_in_f (k := 0) (by decide)))
  obtain ⟨h', c1, c2, c3⟩ := pc_refill hk H3 ok3 (r := sp_nr S) (Nat.lt_succ_self _) (show (if sp_nr S = sp_nr S then (if 3 = 0 then p else if 3 = 1 then q else if 3 = 2 then d else 0) else sp_r S (sp_nr S) 3) = 0 by rw [if_pos rfl]; rfl)
  rw [c1, Option.bind_some]
  exact ⟨h', rfl, c2, po_fr_trans (po_fr_mono f3 (fun z hz => (Bool.or_eq_false_iff.mp hz).2)) c3⟩
end PPR

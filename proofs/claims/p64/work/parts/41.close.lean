section PPL
/-! shipping, cancelling -/
def sp_close (S : sp_S) (r st : Nat) : sp_S := (S.1, S.2.1, (fun x w => if x = r ∧ w = 3 then st else sp_r S x w), S.2.2.2)
def sp_ship (S : sp_S) (r : Nat) : sp_S := sp_close (sp_take S (sp_r S r 0) (fun x => sp_al S r x) (sp_alls S r)) r 1
def sp_shipCost (S : sp_S) (r : Nat) : Nat := sp_sum (fun b => sp_al S r b * sp_b S b 3) (sp_nb S)
theorem sp_close_held {S : sp_S} {r st b : Nat} (hr : r < sp_nr S) (h3 : sp_r S r 3 = 0) (hst : st ≠ 0) : sp_held (sp_close S r st) b + sp_al S r b = sp_held S b := by
  have h1 := sp_sum_set (f := fun x => if (if x = r ∧ 3 = 3 then st else sp_r S x 3) = 0 then sp_al S x b else 0) (g := fun x => if sp_r S x 3 = 0 then sp_al S x b else 0) (k := r) hr (fun i _ hi => by
    rw [if_neg (show ¬ (i = r ∧ 3 = 3) from fun z => hi z.1)])
  rw [if_pos h3, if_pos (show r = r ∧ 3 = 3 from ⟨rfl, rfl⟩), if_neg hst] at h1
  exact h1
theorem sp_close_ok {S : sp_S} (ok : sp_ok S) {r st : Nat} (hr : r < sp_nr S) (h3 : sp_r S r 3 = 0) (hst : st ≠ 0) (h2 : st ≤ 2) : sp_ok (sp_close S r st) := by
  refine ⟨ok.1, fun b hb => ?_, fun x hx => ?_⟩
  · obtain ⟨g1, g2, g3, g4, g5⟩ := ok.2.1 b hb
    refine ⟨g1, g2, g3, g4, ?_⟩
    have h1 := sp_close_held (b := b) hr h3 hst
    show sp_held (sp_close S r st) b ≤ sp_b S b 1
    omega
  · obtain ⟨g1, g2, g3, g4, g5, g6⟩ := ok.2.2 x hx
    have e : ∀ w, w ≠ 3 → sp_r (sp_close S r st) x w = sp_r S x w := fun w hw => if_neg (fun z => hw z.2)
    refine ⟨by rw [e 0 (by decide)]; exact g1, by rw [e 1 (by decide)]; exact g2, by rw [e 2 (by decide)]; exact g3, ?_, g5, fun h9 => ?_⟩
    · show (if x = r ∧ 3 = 3 then st else sp_r S x 3) ≤ 2
      by_cases hc : x = r
      · rw [if_pos ⟨hc, rfl⟩]; exact h2
      · rw [if_neg (fun z => hc z.1)]; exact g4
    · rw [e 1 (by decide)]
      refine g6 ?_
      have h10 : (if x = r ∧ 3 = 3 then st else sp_r S x 3) = 0 := h9
      by_cases hc : x = r
      · rw [if_pos ⟨hc, rfl⟩] at h10
        exact absurd h10 hst
      · rw [if_neg (fun z => hc z.1)] at h10
        exact h10
theorem sp_ship_held {S : sp_S} {r b : Nat} (hr : r < sp_nr S) (h3 : sp_r S r 3 = 0) : sp_held (sp_ship S r) b + sp_al S r b = sp_held S b := sp_close_held (S := sp_take S (sp_r S r 0) (fun x => sp_al S r x) (sp_alls S r)) hr h3 (by decide)
theorem sp_ship_ok {S : sp_S} (ok : sp_ok S) {r : Nat} (hr : r < sp_nr S) (h3 : sp_r S r 3 = 0) : sp_ok (sp_ship S r) := by
  have h0 := sp_close_ok ok (st := 1) hr h3 (by decide) (by decide)
  refine ⟨ok.1, fun b hb => ?_, h0.2.2⟩
  obtain ⟨g1, g2, g3, g4, g5⟩ := ok.2.1 b hb
  have h1 := sp_ship_held (b := b) hr h3
  refine ⟨g1, ?_, g3, g4, ?_⟩
  · show (if 1 = 1 then sp_b S b 1 - sp_al S r b else sp_b S b 1) ≤ 999
    rw [if_pos rfl]
    omega
  · show sp_held (sp_ship S r) b ≤ (if 1 = 1 then sp_b S b 1 - sp_al S r b else sp_b S b 1)
    rw [if_pos rfl]
    omega
variable {S : sp_S} {o : Nat} {h : mm_H}
/-- reads of a heap of which only some rows stand as S says -/
theorem pc_al' (hk : mm_kd o = (0, 7)) {r b : Nat} {v : Int32} (hr : r < 10) (hb : b < 20) (hv : mh_I h (o + 20) (20 * r + b) = v) : gX4_get (o + 19) (nI r * 20 + nI b) h = some v := by
  rw [pc_ix]
  exact pc_get (po_cap7 hk).2.1.2.2.2.2 (by omega) (by decide) hv
theorem pc_alloc' (hk : mm_kd o = (0, 7)) {r b : Nat} {v : Int32} (hr : r < 10) (hb : b < 20) (hv : mh_I h (o + 20) (20 * r + b) = v) : gX7_allocatedUnits o (nI r) (nI b) h = some v := by
  unfold gX7_allocatedUnits
  rw [pc_al' hk hr hb hv]
  rfl
theorem pc_alls' (hk : mm_kd o = (0, 7)) {r nb : Nat} {f : Nat → Nat} (hr : r < 10) (hn : nb ≤ 20) (h1 : mh_I h o 1 = nI nb) (hv : ∀ b, b < nb → mh_I h (o + 20) (20 * r + b) = nI (f b)) : gX7_allUnitsAllocated o (nI r) h = some (nI (sp_sum f nb)) := by
  refine po_loopF (fun n i s => gX7_allUnitsAllocated_L4 o (nI r) h n (nI s) (nI i)) nb (sp_sum f) _ (fun n => ?_) (fun n i hi => ?_) mm_F 0 (Nat.zero_le _) (Nat.lt_of_le_of_lt (Nat.sub_le _ _) (Nat.lt_of_le_of_lt hn (by decide)))
  · rw [gX7_allUnitsAllocated_L4, h1, if_neg (nI_nlt (Nat.le_refl _) (by omega))]
  · rw [gX7_allUnitsAllocated_L4, h1, if_pos (nI_lt hi (by omega)), pc_al' hk hr (by omega) (hv i hi)]
    rw [Option.bind_some, Option.bind_some, Option.bind_some, nI_1, nI_add]
    rfl
/-- a reservation's units leave the batches' reserved units -/
theorem pc_close_L (hk : mm_kd o = (0, 7)) {r nb : Nat} {f g : Nat → Nat} (hr : r < 10) (hn : nb ≤ 20) (h1 : mh_I h o 1 = nI nb) (hv : ∀ b, b < nb → mh_I h (o + 20) (20 * r + b) = nI (f b)) (hg : ∀ b, b < nb → mh_I h (o + 6) b = nI (g b) ∧ f b ≤ g b) :
    ∃ h', gX7_close_L11 o (nI r) mm_F 0 h = some h' ∧ (∀ b, b < nb → mh_I h' (o + 6) b = nI (g b - f b)) ∧ po_fr (fun z => z == o + 6) h h' := by
  have hc6 : (fun z => z == o + 6) (o + 6) = true := by simp
  have hcf : ∀ k, k ≠ 6 → (fun z => z == o + 6) (o + k) = false := fun k hk => by simp; omega
  refine po_loop (fun n i h => gX7_close_L11 o (nI r) n (nI i) h) nb (fun i h' => (∀ b, b < nb → mh_I h' (o + 6) b = nI (if b < i then g b - f b else g b)) ∧ po_fr (fun z => z == o + 6) h h') (fun h' => (∀ b, b < nb → mh_I h' (o + 6) b = nI (g b - f b)) ∧ po_fr (fun z => z == o + 6) h h') (fun n h2 hI => ?_) (fun n i h2 hi hI => ?_) mm_F 0 h (Nat.zero_le _) (Nat.lt_of_le_of_lt (Nat.sub_le _ _) (Nat.lt_of_le_of_lt hn (by decide))) ⟨fun b hb => by rw [if_neg (Nat.not_lt_zero _)]; exact (hg b hb).1, po_fr_refl h⟩
  · have e1 : mh_I h2 o 1 = nI nb := (hI.2.1 (o + 0) (hcf 0 (by decide)) 1).trans h1
    rw [gX7_close_L11, e1, if_neg (nI_nlt (Nat.le_refl _) (by omega))]
    exact ⟨h2, rfl, fun b hb => by rw [hI.1 b hb, if_pos hb], hI.2⟩
  · have e1 : mh_I h2 o 1 = nI nb := (hI.2.1 (o + 0) (hcf 0 (by decide)) 1).trans h1
    have e2 : mh_I h2 (o + 20) (20 * r + i) = nI (f i) := (hI.2.1 (o + 20) (hcf 20 (by decide)) _).trans (hv i hi)
    rw [gX7_close_L11, e1, if_pos (nI_lt hi (by omega)), pc_alloc' hk hr (by omega) e2, Option.bind_some, po_add (by rw [(po_cap7 hk).1.2.2.1]; omega) (by rw [(po_cap7 hk).1.2.2.1]; decide), Option.bind_some, Option.bind_some, nI_1]
    refine ⟨_, ⟨fun b hb => ?_, po_fr_trans hI.2 (po_fr_I hc6)⟩, rfl⟩
    show mh_I (ms_I h2 (o + 6) i (mh_I h2 (o + 6) i + -nI (f i))) (o + 6) b = _
    by_cases hbi : b = i
    · subst hbi
      rw [po_I1, hI.1 b hb, if_neg (Nat.lt_irrefl _), if_pos (Nat.lt_succ_self _), ← Int32.sub_eq_add_neg, pk_sub (hg b hb).2]
    · rw [po_I4 hbi, hI.1 b hb]
      by_cases hlt : b < i
      · rw [if_pos hlt, if_pos (by omega)]
      · rw [if_neg hlt, if_neg (by omega)]
/-- close: the state and the reserved units -/
theorem pc_close (hk : mm_kd o = (0, 7)) {r st nb : Nat} {f g : Nat → Nat} (hr : r < 10) (hn : nb ≤ 20) (h1 : mh_I h o 1 = nI nb) (hv : ∀ b, b < nb → mh_I h (o + 20) (20 * r + b) = nI (f b)) (hg : ∀ b, b < nb → mh_I h (o + 6) b = nI (g b) ∧ f b ≤ g b) :
    ∃ h', gX7_close o (nI r) (nI st) h = some h' ∧ (∀ b, b < nb → mh_I h' (o + 6) b = nI (g b - f b)) ∧ (∀ x, mh_I h' (o + 18) x = if x = r then nI st else mh_I h (o + 18) x) ∧ po_fr (fun z => z == o + 6 || z == o + 18) h h' := by
  unfold gX7_close
  rw [po_put (by rw [(po_cap7 hk).2.1.2.2.2.1]; exact hr) (by rw [(po_cap7 hk).2.1.2.2.2.1]; decide), Option.bind_some]
  obtain ⟨h', e1, e2, e3⟩ := pc_close_L (h := ms_I h (o + 17 + 1) r (nI st)) hk hr hn (by rw [po_I3 (by omega)]; exact h1) (fun b hb => by rw [po_I3 (by omega)]; exact hv b hb) (fun b hb => by rw [po_I3 (by omega)]; exact hg b hb)
  refine ⟨h', e1, e2, fun x => ?_, po_fr_trans (po_fr_I (by simp)) (po_fr_mono e3 (fun z hz => (Bool.or_eq_false_iff.mp hz).1))⟩
  rw [e3.1 (o + 18) (by simp) x]
  by_cases hx : x = r
  · rw [if_pos hx, hx]
    exact po_I1
  · rw [if_neg hx]
    exact po_I4 hx
theorem po_or_in {o : Nat} : ∀ z, po_in o z = false → (z == o + 6 || z == o + 18) = false := fun z hz => by
  have h1 := of_decide_eq_false hz
  have a : (z == o + 6) = false := by simp; omega
  have b : (z == o + 18) = false := by simp; omega
  rw [a, b]
  rfl
theorem pc_cancel (hk : mm_kd o = (0, 7)) (H : sc_S S o h) (ok : sp_ok S) {r : Nat} (hr : r < sp_nr S) (h3 : sp_r S r 3 = 0) :
    ∃ h', gX7_cancelReservation o (nI r) h = some (nI (sp_alls S r), h') ∧ sc_S (sp_close S r 2) o h' ∧ po_fr (po_in o) h h' := by
  unfold gX7_cancelReservation
  have hr10 := pc_r10 ok hr
  obtain ⟨h1, e1, e2, e3, e4⟩ := pc_close (st := 2) hk hr10 ok.1.2.1 H.1.2.1 (fun b hb => (H.2.2.1 r hr).2.2.2.2 b (pc_b20 ok hb)) (fun b hb => ⟨(H.2.1 b hb).2.2.1, sp_al_held hr h3⟩)
  have kf : ∀ k, k ≠ 6 → k ≠ 18 → ∀ j, mh_I h1 (o + k) j = mh_I h (o + k) j := fun k h6 h18 j => e4.1 _ (by simp; omega) j
  have e1' : gX7_close o (nI r) 2 h = some h1 := e1
  rw [e1', Option.bind_some, pc_alls' hk hr10 ok.1.2.1 ((kf 0 (by decide) (by decide) 1).trans H.1.2.1) (fun b hb => (kf 20 (by decide) (by decide) _).trans ((H.2.2.1 r hr).2.2.2.2 b (pc_b20 ok hb))), Option.bind_some]
  refine ⟨h1, rfl, ⟨⟨(kf 0 (by decide) (by decide) 0).trans H.1.1, (kf 0 (by decide) (by decide) 1).trans H.1.2.1, (kf 0 (by decide) (by decide) 7).trans H.1.2.2⟩, fun b hb => ?_, fun x hx => ?_, fun p hp => ?_⟩, po_fr_mono e4 po_or_in⟩
  · obtain ⟨g1, g2, g3, g4, g5⟩ := H.2.1 b hb
    refine ⟨(kf 2 (by decide) (by decide) b).trans g1, (kf 4 (by decide) (by decide) b).trans g2, ?_, (kf 8 (by decide) (by decide) b).trans g4, (kf 10 (by decide) (by decide) b).trans g5⟩
    have h9 := sp_close_held (b := b) (st := 2) hr h3 (by decide)
    rw [e2 b hb]
    exact congrArg nI (by omega)
  · obtain ⟨g1, g2, g3, g4, g5⟩ := H.2.2.1 x hx
    have e : ∀ w, w ≠ 3 → sp_r (sp_close S r 2) x w = sp_r S x w := fun w hw => if_neg (fun z => hw z.2)
    refine ⟨by rw [e 0 (by decide)]; exact (kf 12 (by decide) (by decide) x).trans g1, by rw [e 1 (by decide)]; exact (kf 14 (by decide) (by decide) x).trans g2, by rw [e 2 (by decide)]; exact (kf 16 (by decide) (by decide) x).trans g3, ?_, fun b hb => (kf 20 (by decide) (by decide) _).trans (g5 b hb)⟩
    rw [e3 x]
    show _ = nI (if x = r ∧ 3 = 3 then 2 else sp_r S x 3)
    by_cases hc : x = r
    · rw [if_pos hc, if_pos ⟨hc, rfl⟩]
    · rw [if_neg hc, if_neg (fun z => hc z.1)]
      exact g4
  · obtain ⟨g1, g2, g3, g4⟩ := H.2.2.2 p hp
    exact ⟨(kf 22 (by decide) (by decide) p).trans g1, by rw [kf 24 (by decide) (by decide), kf 26 (by decide) (by decide)]; exact g2, (kf 28 (by decide) (by decide) p).trans g3, (kf 30 (by decide) (by decide) p).trans g4⟩
theorem pc_ship_L (hk : mm_kd o = (0, 7)) {r nb : Nat} {f g c : Nat → Nat} (hr : r < 10) (hn : nb ≤ 20) (h1 : mh_I h o 1 = nI nb) (hv : ∀ b, b < nb → mh_I h (o + 20) (20 * r + b) = nI (f b)) (hg : ∀ b, b < nb → mh_I h (o + 4) b = nI (g b) ∧ f b ≤ g b) (hc : ∀ b, b < nb → mh_I h (o + 10) b = nI (c b)) :
    ∃ h', gX7_shipReservation_L4 o (nI r) mm_F 0 0 h = (gX4_get ((o + 11)) (nI r) h').bind (fun (x6 : Int32) => (gX7_allUnitsAllocated o (nI r) h').bind (fun (x8 : Int32) => (gX4_add ((o + 25)) x6 x8 h').bind (fun (h10 : mm_H) => (gX7_close o (nI r) 1 h10).bind (fun (h12 : mm_H) => some (nI (sp_sum (fun b => f b * c b) nb), h12))))) ∧
      (∀ b, b < nb → mh_I h' (o + 4) b = nI (g b - f b)) ∧ po_fr (fun z => z == o + 4) h h' := by
  have hc4 : (fun z => z == o + 4) (o + 4) = true := by simp
  have hcf : ∀ k, k ≠ 4 → (fun z => z == o + 4) (o + k) = false := fun k hk => by simp; omega
  have key : ∀ n i h2, i ≤ nb → nb - i < n → (∀ b, b < nb → mh_I h2 (o + 4) b = nI (if b < i then g b - f b else g b)) → po_fr (fun z => z == o + 4) h h2 →
      ∃ h', gX7_shipReservation_L4 o (nI r) n (nI (sp_sum (fun b => f b * c b) i)) (nI i) h2 = (gX4_get ((o + 11)) (nI r) h').bind (fun (x6 : Int32) => (gX7_allUnitsAllocated o (nI r) h').bind (fun (x8 : Int32) => (gX4_add ((o + 25)) x6 x8 h').bind (fun (h10 : mm_H) => (gX7_close o (nI r) 1 h10).bind (fun (h12 : mm_H) => some (nI (sp_sum (fun b => f b * c b) nb), h12))))) ∧
        (∀ b, b < nb → mh_I h' (o + 4) b = nI (g b - f b)) ∧ po_fr (fun z => z == o + 4) h h' := by
    intro n
    induction n with
    | zero => intro i h2 _ h9; omega
    | succ n ih =>
      intro i h2 hi hnn hI hf
      have e1 : mh_I h2 o 1 = nI nb := (hf.1 (o + 0) (hcf 0 (by decide)) 1).trans h1
      rw [gX7_shipReservation_L4, e1]
      by_cases hlt : i < nb
      · have e2 : mh_I h2 (o + 20) (20 * r + i) = nI (f i) := (hf.1 (o + 20) (hcf 20 (by decide)) _).trans (hv i hlt)
        rw [if_pos (nI_lt hlt (by omega)), pc_alloc' hk hr (by omega) e2, Option.bind_some, po_add (by rw [(po_cap7 hk).1.2.1]; omega) (by rw [(po_cap7 hk).1.2.1]; decide), Option.bind_some]
        have e3 : gX4_get (o + 9) (nI i) (ms_I h2 (o + 3 + 1) i (mh_I h2 (o + 3 + 1) i + -nI (f i))) = some (nI (c i)) :=
          pc_get (po_cap7 hk).1.2.2.2.2 (by omega) (by decide) (by rw [po_I3 (by omega)]; exact (hf.1 (o + 10) (hcf 10 (by decide)) i).trans (hc i hlt))
        rw [e3, Option.bind_some, Option.bind_some, Option.bind_some, pk_mul, nI_add, nI_1]
        refine ih (i + 1) _ (by omega) (by omega) (fun b hb => ?_) (po_fr_trans hf (po_fr_I hc4))
        show mh_I (ms_I h2 (o + 4) i (mh_I h2 (o + 4) i + -nI (f i))) (o + 4) b = _
        by_cases hbi : b = i
        · subst hbi
          rw [po_I1, hI b hb, if_neg (Nat.lt_irrefl _), if_pos (Nat.lt_succ_self _), ← Int32.sub_eq_add_neg, pk_sub (hg b hb).2]
        · rw [po_I4 hbi, hI b hb]
          by_cases hl : b < i
          · rw [if_pos hl, if_pos (by omega)]
          · rw [if_neg hl, if_neg (by omega)]
      · have hin : i = nb := by omega
        subst hin
        rw [if_neg (nI_nlt (Nat.le_refl _) (by omega))]
        exact ⟨h2, rfl, fun b hb => by rw [hI b hb, if_pos hb], hf⟩
  exact key mm_F 0 h (Nat.zero_le _) (Nat.lt_of_le_of_lt (Nat.sub_le _ _) (Nat.lt_of_le_of_lt hn (by decide))) (fun b hb => by rw [if_neg (Nat.not_lt_zero _)]; exact (hg b hb).1) (po_fr_refl h)
theorem pc_ship (hk : mm_kd o = (0, 7)) (H : sc_S S o h) (ok : sp_ok S) {r : Nat} (hr : r < sp_nr S) (h3 : sp_r S r 3 = 0) :
    ∃ h', gX7_shipReservation o (nI r) h = some (nI (sp_shipCost S r), h') ∧ sc_S (sp_ship S r) o h' ∧ po_fr (po_in o) h h' := by
  unfold gX7_shipReservation
  have hr10 := pc_r10 ok hr
  have hle : ∀ b, b < sp_nb S → sp_al S r b ≤ sp_b S b 1 := fun b hb => Nat.le_trans (sp_al_held hr h3) (sp_held_le ok hb)
  obtain ⟨h1, e1, e2, e3⟩ := pc_ship_L (f := fun b => sp_al S r b) (g := fun b => sp_b S b 1) (c := fun b => sp_b S b 3) hk hr10 ok.1.2.1 H.1.2.1 (fun b hb => (H.2.2.1 r hr).2.2.2.2 b (pc_b20 ok hb)) (fun b hb => ⟨(H.2.1 b hb).2.1, hle b hb⟩) (fun b hb => (H.2.1 b hb).2.2.2.2)
  have kf : ∀ k, k ≠ 4 → ∀ j, mh_I h1 (o + k) j = mh_I h (o + k) j := fun k h4 j => e3.1 _ (by simp; omega) j
  have hr0 := (ok.2.2 r hr).1
  have g11 : gX4_get (o + 11) (nI r) h1 = some (nI (sp_r S r 0)) := pc_get (po_cap7 hk).2.1.1 hr10 (by decide) ((kf 12 (by decide) r).trans (H.2.2.1 r hr).1)
  have ga : gX7_allUnitsAllocated o (nI r) h1 = some (nI (sp_alls S r)) := pc_alls' hk hr10 ok.1.2.1 ((kf 0 (by decide) 1).trans H.1.2.1) (fun b hb => (kf 20 (by decide) _).trans ((H.2.2.1 r hr).2.2.2.2 b (pc_b20 ok hb)))
  rw [e1, g11, Option.bind_some, ga, Option.bind_some, po_add (by rw [(po_cap7 hk).2.2.2.2.1]; exact hr0) (by rw [(po_cap7 hk).2.2.2.2.1]; decide), Option.bind_some]
  generalize hH2 : ms_I h1 (o + 25 + 1) (sp_r S r 0) (mh_I h1 (o + 25 + 1) (sp_r S r 0) + nI (sp_alls S r)) = H2
  have k2 : ∀ k, k ≠ 4 → k ≠ 26 → ∀ j, mh_I H2 (o + k) j = mh_I h (o + k) j := fun k h4 h26 j => by
    rw [← hH2, po_I3 (by omega)]
    exact kf k h4 j
  have k4 : ∀ b, b < sp_nb S → mh_I H2 (o + 4) b = nI (sp_b S b 1 - sp_al S r b) := fun b hb => by
    rw [← hH2, po_I3 (by omega)]
    exact e2 b hb
  have k26 : ∀ p, mh_I H2 (o + 26) p = mh_I h (o + 26) p + (if p = sp_r S r 0 then nI (sp_alls S r) else 0) := fun p => by
    rw [← hH2]
    show mh_I (ms_I h1 (o + 26) (sp_r S r 0) (mh_I h1 (o + 26) (sp_r S r 0) + nI (sp_alls S r))) (o + 26) p = _
    by_cases hp : p = sp_r S r 0
    · rw [if_pos hp, hp, po_I1, kf 26 (by decide)]
    · rw [if_neg hp, po_I4 hp, kf 26 (by decide), Int32.add_zero]
  obtain ⟨h', c1, c2, c3, c4⟩ := pc_close (h := H2) (st := 1) hk hr10 ok.1.2.1 ((k2 0 (by decide) (by decide) 1).trans H.1.2.1) (fun b hb => (k2 20 (by decide) (by decide) _).trans ((H.2.2.1 r hr).2.2.2.2 b (pc_b20 ok hb))) (fun b hb => ⟨(k2 6 (by decide) (by decide) b).trans (H.2.1 b hb).2.2.1, sp_al_held hr h3⟩)
  have c1' : gX7_close o (nI r) 1 H2 = some h' := c1
  rw [c1', Option.bind_some]
  have kg : ∀ k, k ≠ 6 → k ≠ 18 → ∀ j, mh_I h' (o + k) j = mh_I H2 (o + k) j := fun k h6 h18 j => c4.1 _ (by simp; omega) j
  have kk : ∀ k, k ≠ 6 → k ≠ 18 → k ≠ 4 → k ≠ 26 → ∀ j, mh_I h' (o + k) j = mh_I h (o + k) j := fun k a b c d j => (kg k a b j).trans (k2 k c d j)
  refine ⟨h', rfl, ⟨⟨(kk 0 (by decide) (by decide) (by decide) (by decide) 0).trans H.1.1, (kk 0 (by decide) (by decide) (by decide) (by decide) 1).trans H.1.2.1, (kk 0 (by decide) (by decide) (by decide) (by decide) 7).trans H.1.2.2⟩, fun b hb => ?_, fun x hx => ?_, fun p hp => ?_⟩, ?_⟩
  · obtain ⟨g1, g2, g3, g4, g5⟩ := H.2.1 b hb
    refine ⟨(kk 2 (by decide) (by decide) (by decide) (by decide) b).trans g1, ?_, ?_, (kk 8 (by decide) (by decide) (by decide) (by decide) b).trans g4, (kk 10 (by decide) (by decide) (by decide) (by decide) b).trans g5⟩
    · exact (kg 4 (by decide) (by decide) b).trans (k4 b hb)
    · have h9 := sp_ship_held (b := b) hr h3
      rw [c2 b hb]
      exact congrArg nI (by omega)
  · obtain ⟨g1, g2, g3, g4, g5⟩ := H.2.2.1 x hx
    have e : ∀ w, w ≠ 3 → sp_r (sp_ship S r) x w = sp_r S x w := fun w hw => if_neg (fun z => hw z.2)
    refine ⟨by rw [e 0 (by decide)]; exact (kk 12 (by decide) (by decide) (by decide) (by decide) x).trans g1, by rw [e 1 (by decide)]; exact (kk 14 (by decide) (by decide) (by decide) (by decide) x).trans g2, by rw [e 2 (by decide)]; exact (kk 16 (by decide) (by decide) (by decide) (by decide) x).trans g3, ?_, fun b hb => (kk 20 (by decide) (by decide) (by decide) (by decide) _).trans (g5 b hb)⟩
    rw [c3 x]
    show _ = nI (if x = r ∧ 3 = 3 then 1 else sp_r S x 3)
    by_cases hc : x = r
    · rw [if_pos hc, if_pos ⟨hc, rfl⟩]
    · rw [if_neg hc, if_neg (fun z => hc z.1), k2 18 (by decide) (by decide)]
      exact g4
  · obtain ⟨g1, g2, g3, g4⟩ := H.2.2.2 p hp
    have ea : ∀ w, w ≠ 1 → sp_ac (sp_ship S r) p w = sp_ac S p w := fun w hw => sp_take_acw (S := S) (t := fun x => sp_al S r x) hw
    refine ⟨by rw [ea 0 (by decide)]; exact (kk 22 (by decide) (by decide) (by decide) (by decide) p).trans g1, ?_, by rw [ea 2 (by decide)]; exact (kk 28 (by decide) (by decide) (by decide) (by decide) p).trans g3, by rw [ea 3 (by decide)]; exact (kk 30 (by decide) (by decide) (by decide) (by decide) p).trans g4⟩
    rw [kk 24 (by decide) (by decide) (by decide) (by decide), kg 26 (by decide) (by decide), k26, ← Int32.add_assoc, g2]
    show _ = (if p = sp_r S r 0 ∧ 1 = 1 then sp_ac S p 1 + nI (sp_alls S r) else sp_ac S p 1)
    by_cases hc : p = sp_r S r 0
    · rw [if_pos hc, if_pos ⟨hc, rfl⟩]
    · rw [if_neg hc, if_neg (fun z => hc z.1), Int32.add_zero]
  · refine po_fr_trans (po_fr_mono e3 (fun z hz => ?_)) (po_fr_trans (b := H2) ?_ (po_fr_mono c4 po_or_in))
    · have := of_decide_eq_false hz
      simp
      omega
    · rw [← hH2]
      exact po_fr_I (po_in_f (k := 26) (by decide))
end PPL

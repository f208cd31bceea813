section PQM
/-! the reference's simulated days -/
variable {S X : sp_S} {p d k n : Nat} {h : mm_H}
/-- all batches of a product, in their order -/
def sp_all (S : sp_S) (p : Nat) : List Nat := sp_ordk (sp_e S) (fun b => decide (sp_b S b 0 = p)) (sp_nb S)
/-- days on sale from today on -/
def sp_D (S : sp_S) (b : Nat) : Nat := sp_b S b 2 + 1 - sp_dy S
def sp_sold (S : sp_S) (p d k b : Nat) : Nat := sp_sl d (sp_free S) (sp_D S) (d * k) (sp_all S p) 0 b
def sp_soldI (S : sp_S) (p d b : Nat) : Nat := sp_slI d (sp_free S) (sp_D S) (sp_all S p) 0 b
def sp_tot (S : sp_S) (p d : Nat) : Nat := sp_cum d (sp_free S) (sp_D S) (sp_all S p) 0
/-- units written off in n days -/
def sp_was (S : sp_S) (p d n : Nat) : Nat := sp_sum (fun b => if sp_b S b 0 = p ∧ sp_D S b < n then sp_b S b 1 - sp_soldI S p d b else 0) (sp_nb S)
/-- the stock after k days -/
def sp_sim (S : sp_S) (p d k : Nat) (X : sp_S) : Prop := (sp_dy X = sp_dy S + k ∧ sp_nb X = sp_nb S) ∧ (∀ b w, w ≠ 1 → sp_b X b w = sp_b S b w) ∧
  (∀ b, b < sp_nb S → sp_b S b 0 = p → (sp_D S b < k → sp_b X b 1 = 0 ∧ sp_held X b = 0) ∧ (¬ sp_D S b < k → sp_b X b 1 = sp_b S b 1 - sp_sold S p d k b ∧ sp_held X b = sp_held S b)) ∧
  sp_ac X p 2 = sp_ac S p 2 + nI (sp_was S p d k)
theorem sp_sold_le (S : sp_S) (p d k b : Nat) : sp_sold S p d k b ≤ sp_free S b := sp_sl_le
theorem sp_soldI_le (S : sp_S) (p d b : Nat) : sp_soldI S p d b ≤ sp_free S b := sp_slI_le
theorem sp_sim0 (S : sp_S) (p d : Nat) : sp_sim S p d 0 S := by
  refine ⟨⟨rfl, rfl⟩, fun _ _ _ => rfl, fun b hb hp => ⟨fun z => absurd z (Nat.not_lt_zero _), fun _ => ⟨?_, rfl⟩⟩, ?_⟩
  · unfold sp_sold
    rw [Nat.mul_zero, sp_sl_0, Nat.sub_zero]
  · have : sp_was S p d 0 = 0 := sp_sum_zero (fun b _ => if_neg (fun z => absurd z.2 (Nat.not_lt_zero _)))
    rw [this, nI_0, Int32.add_zero]
/-- writing off, batch by batch -/
theorem sp_wos_at (S : sp_S) : ∀ j b, sp_b (sp_wos S j) b 1 = (if b < j ∧ sp_b S b 2 < sp_dy S then 0 else sp_b S b 1) ∧ sp_held (sp_wos S j) b = (if b < j ∧ sp_b S b 2 < sp_dy S then 0 else sp_held S b)
  | 0, b => by
    rw [if_neg (fun z => absurd z.1 (Nat.not_lt_zero _)), if_neg (fun z => absurd z.1 (Nat.not_lt_zero _))]
    exact ⟨rfl, rfl⟩
  | j + 1, b => by
    obtain ⟨h1, h2⟩ := sp_wos_at S j b
    show sp_b (if sp_b S j 2 < sp_dy S then sp_wo1 (sp_wos S j) j else sp_wos S j) b 1 = _ ∧ sp_held (if sp_b S j 2 < sp_dy S then sp_wo1 (sp_wos S j) j else sp_wos S j) b = _
    by_cases hc : sp_b S j 2 < sp_dy S
    · rw [if_pos hc]
      rw [sp_wo1_held]
      have e1 : sp_b (sp_wo1 (sp_wos S j) j) b 1 = if b = j then 0 else sp_b (sp_wos S j) b 1 := by
        show (if b = j ∧ 1 = 1 then 0 else sp_b (sp_wos S j) b 1) = _
        by_cases hb : b = j
        · rw [if_pos ⟨hb, rfl⟩, if_pos hb]
        · rw [if_neg (fun z => hb z.1), if_neg hb]
      rw [e1]
      by_cases hb : b = j
      · rw [if_pos hb, if_pos hb, hb, if_pos ⟨Nat.lt_succ_self j, hc⟩, if_pos ⟨Nat.lt_succ_self j, hc⟩]
        exact ⟨rfl, rfl⟩
      · rw [if_neg hb, if_neg hb, h1, h2]
        by_cases hb2 : b < j ∧ sp_b S b 2 < sp_dy S
        · rw [if_pos hb2, if_pos hb2, if_pos ⟨by omega, hb2.2⟩, if_pos ⟨by omega, hb2.2⟩]
          exact ⟨rfl, rfl⟩
        · have hn : ¬ (b < j + 1 ∧ sp_b S b 2 < sp_dy S) := fun z => hb2 ⟨by omega, z.2⟩
          rw [if_neg hb2, if_neg hb2, if_neg hn, if_neg hn]
          exact ⟨rfl, rfl⟩
    · rw [if_neg hc, h1, h2]
      by_cases hb2 : b < j ∧ sp_b S b 2 < sp_dy S
      · rw [if_pos hb2, if_pos hb2, if_pos ⟨by omega, hb2.2⟩, if_pos ⟨by omega, hb2.2⟩]
        exact ⟨rfl, rfl⟩
      · have hn : ¬ (b < j + 1 ∧ sp_b S b 2 < sp_dy S) := fun z => by
          rcases Nat.lt_or_ge b j with h3 | h3
          · exact hb2 ⟨h3, z.2⟩
          · have : b = j := by omega
            rw [this] at z
            exact hc z.2
        rw [if_neg hb2, if_neg hb2, if_neg hn, if_neg hn]
        exact ⟨rfl, rfl⟩
theorem sp_wos_ac (S : sp_S) (p : Nat) : ∀ j, sp_ac (sp_wos S j) p 2 = sp_ac S p 2 + nI (sp_sum (fun b => if sp_b S b 0 = p ∧ sp_b S b 2 < sp_dy S then sp_b S b 1 else 0) j)
  | 0 => by
    show sp_ac S p 2 = sp_ac S p 2 + nI 0
    rw [nI_0, Int32.add_zero]
  | j + 1 => by
    have ih := sp_wos_ac S p j
    show sp_ac (if sp_b S j 2 < sp_dy S then sp_wo1 (sp_wos S j) j else sp_wos S j) p 2 = sp_ac S p 2 + nI (sp_sum _ j + (if sp_b S j 0 = p ∧ sp_b S j 2 < sp_dy S then sp_b S j 1 else 0))
    by_cases hc : sp_b S j 2 < sp_dy S
    · rw [if_pos hc]
      show (if p = sp_b (sp_wos S j) j 0 ∧ 2 = 2 then sp_ac (sp_wos S j) p 2 + nI (sp_b (sp_wos S j) j 1) else sp_ac (sp_wos S j) p 2) = _
      have e0 : sp_b (sp_wos S j) j 0 = sp_b S j 0 := (sp_wos_same S j).2.1 j 0 (Or.inl (by decide))
      have e1 : sp_b (sp_wos S j) j 1 = sp_b S j 1 := (sp_wos_same S j).2.1 j 1 (Or.inr (Nat.le_refl _))
      rw [e0, e1, ih]
      by_cases hp : sp_b S j 0 = p
      · rw [if_pos ⟨hp.symm, rfl⟩, if_pos ⟨hp, hc⟩, ← nI_add, Int32.add_assoc]
      · rw [if_neg (fun z => hp z.1.symm), if_neg (fun z => hp z.1), Nat.add_zero]
    · rw [if_neg hc, if_neg (fun z => hc z.2), Nat.add_zero]
      exact ih
/-- the day's write-off -/
theorem sp_sim_wo (I : sp_sim S p d k X) : (sp_dy (sp_wo X) = sp_dy S + k ∧ sp_nb (sp_wo X) = sp_nb S) ∧ (∀ b w, w ≠ 1 → sp_b (sp_wo X) b w = sp_b S b w) ∧
    (∀ b, b < sp_nb S → sp_b S b 0 = p → (sp_D S b ≤ k → sp_b (sp_wo X) b 1 = 0 ∧ sp_held (sp_wo X) b = 0) ∧ (¬ sp_D S b ≤ k → sp_b (sp_wo X) b 1 = sp_b S b 1 - sp_sold S p d k b ∧ sp_held (sp_wo X) b = sp_held S b)) ∧
    sp_ac (sp_wo X) p 2 = sp_ac S p 2 + nI (sp_was S p d (k + 1)) := by
  obtain ⟨⟨i1, i2⟩, i3, i4, i5⟩ := I
  have hexp : ∀ b, sp_b X b 2 < sp_dy X ↔ sp_D S b ≤ k := fun b => by
    rw [i3 b 2 (by decide), i1]
    unfold sp_D
    omega
  refine ⟨⟨(sp_wos_dy X _).trans i1, (sp_wos_nb X _).trans i2⟩, fun b w hw => ((sp_wos_same X (sp_nb X)).2.1 b w (Or.inl hw)).trans (i3 b w hw), fun b hb hp => ?_, ?_⟩
  · obtain ⟨h1, h2⟩ := sp_wos_at X (sp_nb X) b
    obtain ⟨g1, g2⟩ := i4 b hb hp
    refine ⟨fun hD => ?_, fun hD => ?_⟩
    · unfold sp_wo
      rw [h1, h2, if_pos ⟨by rw [i2]; exact hb, (hexp b).mpr hD⟩, if_pos ⟨by rw [i2]; exact hb, (hexp b).mpr hD⟩]
      exact ⟨rfl, rfl⟩
    · unfold sp_wo
      rw [h1, h2, if_neg (fun z => hD ((hexp b).mp z.2)), if_neg (fun z => hD ((hexp b).mp z.2))]
      exact g2 (by omega)
  · unfold sp_wo
    rw [sp_wos_ac, i5, Int32.add_assoc, nI_add]
    refine congrArg (fun z => sp_ac S p 2 + nI z) ?_
    unfold sp_was
    rw [i2, ← sp_sum_add]
    refine sp_sum_eq (fun b hb => ?_)
    show (if sp_b S b 0 = p ∧ sp_D S b < k then sp_b S b 1 - sp_soldI S p d b else 0) + (if sp_b X b 0 = p ∧ sp_b X b 2 < sp_dy X then sp_b X b 1 else 0) = (if sp_b S b 0 = p ∧ sp_D S b < k + 1 then sp_b S b 1 - sp_soldI S p d b else 0)
    rw [i3 b 0 (by decide)]
    by_cases hp : sp_b S b 0 = p
    · obtain ⟨g1, g2⟩ := i4 b hb hp
      rcases Nat.lt_trichotomy (sp_D S b) k with h1 | h1 | h1
      · rw [if_pos ⟨hp, h1⟩, if_pos ⟨hp, (hexp b).mpr (by omega)⟩, if_pos ⟨hp, by omega⟩, (g1 h1).1, Nat.add_zero]
      · rw [if_neg (fun z => by have := z.2; omega), if_pos ⟨hp, (hexp b).mpr (by omega)⟩, if_pos ⟨hp, by omega⟩, (g2 (by omega)).1, Nat.zero_add]
        unfold sp_sold sp_soldI
        rw [sp_sl_I (by omega)]
      · rw [if_neg (fun z => by have := z.2; omega), if_neg (fun z => by have := (hexp b).mp z.2; omega), if_neg (fun z => by have := z.2; omega)]
    · rw [if_neg (fun z => hp z.1), if_neg (fun z => hp z.1), if_neg (fun z => hp z.1)]
/-- free units of the day -/
theorem sp_sim_free (ok : sp_ok S) (I : sp_sim S p d k X) {b : Nat} (hb : b < sp_nb S) (hp : sp_b S b 0 = p) : sp_free (sp_wo X) b = if sp_D S b ≤ k then 0 else sp_free S b - sp_sold S p d k b := by
  obtain ⟨_, _, g, _⟩ := sp_sim_wo I
  obtain ⟨g1, g2⟩ := g b hb hp
  unfold sp_free
  by_cases hD : sp_D S b ≤ k
  · rw [if_pos hD, (g1 hD).1, (g1 hD).2]
  · rw [if_neg hD, (g2 hD).1, (g2 hD).2]
    omega
theorem sp_all_mem (S : sp_S) (p b : Nat) : b ∈ sp_all S p ↔ b < sp_nb S ∧ sp_b S b 0 = p := by
  unfold sp_all
  rw [sp_ordk_mem, decide_eq_true_iff]
/-- the day's order: all batches of the product but those that give nothing -/
theorem sp_sim_ord (ok : sp_ok S) (I : sp_sim S p d k X) : sp_ord (sp_wo X) p (sp_dy (sp_wo X)) = (sp_all S p).filter (fun b => decide (0 < sp_free (sp_wo X) b)) := by
  obtain ⟨⟨g1, g2⟩, g3, g4, _⟩ := sp_sim_wo I
  unfold sp_all
  rw [← sp_ordk_sub]
  unfold sp_ord
  rw [g2]
  refine sp_ordk_eq (fun b hb => ?_) (fun b _ => g3 b 2 (by decide))
  unfold sp_el
  rw [g1, g3 b 0 (by decide), g3 b 2 (by decide)]
  by_cases hp : sp_b S b 0 = p
  · have hf := sp_sim_free ok I hb hp
    by_cases h0 : 0 < sp_free (sp_wo X) b
    · have hD : ¬ sp_D S b ≤ k := fun z => by
        rw [if_pos z] at hf
        omega
      unfold sp_D at hD
      rw [decide_eq_true hp, decide_eq_true h0, decide_eq_true ⟨hp, by omega, h0⟩]
      rfl
    · rw [decide_eq_false h0, decide_eq_false (fun z => h0 z.2.2), Bool.and_false]
  · rw [decide_eq_false hp, decide_eq_false (fun z => hp z.1), Bool.false_and]
theorem sp_sim_no (I : sp_sim S p d k X) : ∀ z, z ∈ sp_all S p → (fun b => decide (0 < sp_free (sp_wo X) b)) z = false → sp_free (sp_wo X) z = 0 := fun z _ h => by
  have := of_decide_eq_false h
  omega
/-- what the day takes -/
theorem sp_sim_tk (ok : sp_ok S) (I : sp_sim S p d k X) (x : Nat) : sp_tk (sp_free (sp_wo X)) (sp_ord (sp_wo X) p (sp_dy (sp_wo X))) d x = sp_sold S p d (k + 1) x - sp_sold S p d k x ∧
    sp_left (sp_free (sp_wo X)) (sp_ord (sp_wo X) p (sp_dy (sp_wo X))) d = d - (min (d * (k + 1)) (sp_tot S p d) - min (d * k) (sp_tot S p d)) := by
  have h0 : d - (min (d * k + d) 0 - min (d * k) 0) = d := by omega
  obtain ⟨h1, h2⟩ := sp_day_tk (d := d) (f := sp_free S) (D := sp_D S) (g := sp_free (sp_wo X)) (k := k) (l := sp_all S p) (c := 0) (sp_lex_srt sp_ordk_lex) (fun z hz => by
    obtain ⟨hz1, hz2⟩ := (sp_all_mem S p z).mp hz
    exact sp_sim_free ok I hz1 hz2)
  rw [h0] at h1 h2
  rw [sp_sim_ord ok I]
  constructor
  · rw [sp_tk_fil (sp_sim_no I), h1]
    unfold sp_sold
    rw [Nat.mul_succ]
  · rw [sp_left_lsum, sp_lsum_fil (sp_sim_no I), ← sp_left_lsum, h2]
    unfold sp_tot
    rw [Nat.mul_succ]
/-- the day's stock is enough -/
theorem sp_sim_met (ok : sp_ok S) (I : sp_sim S p d k X) (hd : 0 < d) : d ≤ sp_av (sp_wo X) p (sp_dy (sp_wo X)) ↔ d * (k + 1) ≤ sp_tot S p d := by
  have h1 := (sp_sim_tk ok I 0).2
  rw [sp_left_lsum, sp_lsum_av, Nat.mul_succ] at h1
  rw [Nat.mul_succ]
  generalize d * k = K at h1 ⊢
  omega
/-- a day lived -/
def sp_day (X : sp_S) (p d : Nat) : sp_S := sp_adv (sp_take (sp_wo X) p (sp_tk (sp_free (sp_wo X)) (sp_ord (sp_wo X) p (sp_dy (sp_wo X))) d) (d - sp_left (sp_free (sp_wo X)) (sp_ord (sp_wo X) p (sp_dy (sp_wo X))) d)) 1
theorem sp_sim_S (ok : sp_ok S) (I : sp_sim S p d k X) : sp_sim S p d (k + 1) (sp_day X p d) := by
  obtain ⟨⟨g1, g2⟩, g3, g4, g5⟩ := sp_sim_wo I
  refine ⟨⟨?_, g2⟩, fun b w hw => ?_, fun b hb hp => ?_, ?_⟩
  · show sp_dy (sp_wo X) + 1 = _
    rw [g1]
    rfl
  · show (if w = 1 then sp_b (sp_wo X) b 1 - _ else sp_b (sp_wo X) b w) = _
    rw [if_neg hw]
    exact g3 b w hw
  · have ht := (sp_sim_tk ok I b).1
    have hh : sp_held (sp_day X p d) b = sp_held (sp_wo X) b := rfl
    have hu : sp_b (sp_day X p d) b 1 = sp_b (sp_wo X) b 1 - (sp_sold S p d (k + 1) b - sp_sold S p d k b) := by
      show (if 1 = 1 then sp_b (sp_wo X) b 1 - sp_tk (sp_free (sp_wo X)) (sp_ord (sp_wo X) p (sp_dy (sp_wo X))) d b else sp_b (sp_wo X) b 1) = _
      rw [if_pos rfl, ht]
    obtain ⟨k1, k2⟩ := g4 b hb hp
    have hm : sp_sold S p d k b ≤ sp_sold S p d (k + 1) b := sp_sl_mono (Nat.mul_le_mul_left d (Nat.le_succ k))
    rw [hh, hu]
    refine ⟨fun hD => ?_, fun hD => ?_⟩
    · rw [(k1 (by omega)).1, (k1 (by omega)).2]
      exact ⟨Nat.zero_sub _, rfl⟩
    · rw [(k2 (by omega)).1, (k2 (by omega)).2]
      exact ⟨by omega, rfl⟩
  · show (if p = p ∧ 2 = 1 then _ else sp_ac (sp_wo X) p 2) = _
    rw [if_neg (fun z => absurd z.2 (by decide))]
    exact g5
theorem sp_day_ok (ok : sp_ok X) (hd : sp_dy X + 1 ≤ 20000) : sp_ok (sp_day X p d) :=
  sp_adv_ok (sp_take_ok (sp_wos_ok ok _) (fun _ _ => sp_tk_le)) (show sp_dy (sp_wo X) + 1 ≤ 20000 by rw [show sp_dy (sp_wo X) = sp_dy X from sp_wos_dy X _]; exact hd)
theorem pm_live (H : sm_S X 0 h) (ok : sp_ok X) (hd : sp_dy X + 1 ≤ 20000) (hp : p < 8) (hq : d ≤ 999) : ∃ h', gX11_liveDay (nI p) (nI d) h = some (decide (d ≤ sp_av (sp_wo X) p (sp_dy (sp_wo X))), h') ∧ sm_S (sp_day X p d) 0 h' ∧ po_fx h h' := by
  obtain ⟨a, e1, H1, f1⟩ := pm_wo H ok
  have ok1 := sp_wos_ok ok (sp_nb X)
  have edy : sp_dy (sp_wo X) = sp_dy X := sp_wos_dy X _
  obtain ⟨b, e2, H2, f2⟩ := pm_takeOut H1 ok1 hp (d := sp_dy (sp_wo X)) (q := d) (by omega) (by omega)
  unfold gX11_liveDay
  rw [show gX11_writeOff h = _ from e1, Option.bind_some, pm_canIssue H1 ok1 (by omega) (by omega), Option.bind_some, if_pos po_m0, pm_dy H1, e2, Option.bind_some, if_pos po_m0, if_pos po_m0, Option.bind_some, pm_dy H2, nI_1]
  refine ⟨_, rfl, ?_, po_fx_trans f1 (po_fx_trans f2 (po_fx_I (by decide)))⟩
  refine ⟨⟨po_I1, (po_I4 (by decide)).trans H2.1.2.1, (po_I4 (by decide)).trans H2.1.2.2⟩, fun x hx w hw => ?_, fun x hx => ⟨fun w hw => ?_, fun y hy => ?_⟩, fun x hx w hw => ?_⟩
  · rw [po_I4 (by rw [po_t0]; omega)]
    exact H2.2.1 x hx w hw
  · rw [po_I4 (by rw [po_t0]; omega)]
    exact (H2.2.2.1 x hx).1 w hw
  · rw [po_I4 (by rw [po_t0]; omega)]
    exact (H2.2.2.1 x hx).2 y hy
  · rw [po_I4 (by rw [po_t0]; omega)]
    exact H2.2.2.2 x hx w hw
end PQM

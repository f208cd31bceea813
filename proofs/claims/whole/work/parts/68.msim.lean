section PQN
/-! forecasts on the reference -/
variable {A : sp_A} {S X : sp_S} {p d k n : Nat} {h a : mm_H}
theorem pm_days {Q : mm_H → Prop} (okS : sp_ok S) (hdy : sp_dy S ≤ 9999) (hp : p < 8) (hd0 : 0 < d) (hd : d ≤ 999) (hQ : ∀ b, po_fx a b → ∃ c, gX11_copyBlock 9 0 b = some c ∧ Q c) : ∀ n k X b, sm_S X 0 b → sp_ok X → sp_sim S p d k X → po_fx a b → k ≤ 365 → 365 - k < n → d * k ≤ sp_tot S p d →
    ∃ c, gX11_daysUntilShortage_L48 (nI p) (nI d) n (nI k) b = some (nI (min 365 (sp_tot S p d / d)), c) ∧ Q c := by
  intro n
  induction n with
  | zero => intro k X b _ _ _ _ _ h9; omega
  | succ n ih =>
    intro k X b H ok I f hk hn hT
    obtain ⟨c0, q1, q2⟩ := hQ b f
    rw [gX11_daysUntilShortage_L48]
    by_cases hlt : k < 365
    · have edy := I.1.1
      obtain ⟨b', e1, H1, f1⟩ := pm_live (p := p) (d := d) H ok (by omega) hp hd
      have f2 := po_fx_trans f f1
      have met := sp_sim_met okS I hd0
      have okX := sp_day_ok (p := p) (d := d) ok (by omega)
      have IX := sp_sim_S okS I
      obtain ⟨c1, q3, q4⟩ := hQ b' f2
      by_cases hm : d * (k + 1) ≤ sp_tot S p d
      · obtain ⟨c, g1, g2⟩ := ih (k + 1) _ b' H1 okX IX f2 (by omega) (by omega) hm
        refine ⟨c, ?_, g2⟩
        refine po_jn (fun k1 j1 => ?_)
        rw [if_pos (show nI k < 365 from nI_lt hlt (by decide)), e1, Option.bind_some, if_pos (decide_eq_true (met.mpr hm)), Option.bind_some, nI_1]
        exact g1
      · refine ⟨c1, ?_, q4⟩
        refine po_jn (fun k1 j1 => ?_)
        rw [if_pos (show nI k < 365 from nI_lt hlt (by decide)), e1, Option.bind_some, if_neg (by rw [decide_eq_false (fun z => hm (met.mp z))]; exact Bool.false_ne_true), j1]
        dsimp only
        rw [q3, Option.bind_some]
        have e : sp_tot S p d / d = k := Nat.div_eq_of_lt_le (by rw [Nat.mul_comm]; exact hT) (by rw [Nat.mul_comm]; exact Nat.lt_of_not_le hm)
        rw [e, Nat.min_eq_right (by omega)]
    · have hk5 : k = 365 := by omega
      subst hk5
      refine ⟨c0, ?_, q2⟩
      refine po_jn (fun k1 j1 => ?_)
      rw [if_neg (show ¬ nI 365 < 365 by decide), j1]
      dsimp only
      rw [q1, Option.bind_some]
      have e : 365 ≤ sp_tot S p d / d := (Nat.le_div_iff_mul_le hd0).mpr (by rw [Nat.mul_comm]; exact hT)
      rw [Nat.min_eq_left e]
theorem op_days_m (H : ra_m A h) (ok : sa_ok A) (hp : p < sp_np (sa_C A)) (hd0 : 1 ≤ d) (hd : d ≤ 999) : ∃ c, gX11_daysUntilShortage (nI p) (nI d) h = some (nI (min 365 (sp_tot (sa_S A) p d / d)), c) ∧ mh_I c 352 9 = 0 ∧ ra_m A c ∧ po_fr po_fm h c := by
  have h8 := ok.1.1.1
  have H9 := ra_m_9 (v := 0) H ok
  obtain ⟨a, e1, e2, e3, e4⟩ := pm_aside H9 ok
  obtain ⟨c, g1, g2, g3⟩ := pm_days (a := a) (Q := fun c => ra_m A c ∧ po_fr po_m353 (ms_I h 352 9 0) c) ok.1.2 ok.2.2.2.2.2.2.1 (show p < 8 by omega) hd0 hd e4 mm_F 0 (sa_S A) a e2.1.2 ok.1.2 (sp_sim0 _ _ _) (po_fx_refl a) (by decide) (by decide) (by rw [Nat.mul_zero]; exact Nat.zero_le _)
  refine ⟨c, ?_, by rw [g3.1 352 (by decide), po_I1], g2, po_fr_trans po_fm9 (po_fm_m g3)⟩
  unfold gX11_daysUntilShortage
  rw [pm_isP H ok hp, Option.bind_some]
  refine po_jn (fun k1 j1 => ?_)
  rw [if_pos rfl, j1]
  dsimp only
  rw [po_in_in (y := 1) (z := 999) hd0 hd (by decide) rfl rfl rfl, Option.bind_some]
  refine po_jn (fun k2 j2 => ?_)
  rw [if_pos rfl, j2]
  dsimp only
  rw [po_fails_0, Option.bind_some, if_neg Bool.false_ne_true, e1, Option.bind_some]
  exact g1
theorem pm_wasteL {Q : mm_H → Prop} {N : Nat} (okS : sp_ok S) (hdy : sp_dy S ≤ 9999) (hp : p < 8) (hd : d ≤ 999) (hN : N ≤ 365) (hQ : ∀ b, po_fx a b → ∃ c, gX11_copyBlock 9 0 b = some c ∧ Q c) : ∀ n k X b, sm_S X 0 b → sp_ok X → sp_sim S p d k X → po_fx a b → k ≤ N → N - k < n →
    ∃ c, gX11_waste_L19 (nI p) (nI d) (nI N) (sp_ac S p 2) n (nI k) b = some (nI (sp_was S p d N), c) ∧ Q c := by
  intro n
  induction n with
  | zero => intro k X b _ _ _ _ _ h9; omega
  | succ n ih =>
    intro k X b H ok I f hk hn
    rw [gX11_waste_L19]
    by_cases hlt : k < N
    · have edy := I.1.1
      obtain ⟨b', e1, H1, f1⟩ := pm_live (p := p) (d := d) H ok (by omega) hp hd
      rw [if_pos (nI_lt hlt (by omega)), e1, Option.bind_some, Option.bind_some, nI_1]
      exact ih (k + 1) _ b' H1 (sp_day_ok ok (by omega)) (sp_sim_S okS I) (po_fx_trans f f1) (by omega) (by omega)
    · have hkN : k = N := by omega
      subst hkN
      obtain ⟨c0, q1, q2⟩ := hQ b f
      rw [if_neg (nI_nlt (Nat.le_refl _) (by omega)), pm_ofP (x := 10) (w := 10) rfl (by omega) (by decide), show mh_I b 353 (4 + 12 * p + 10) = sp_ac X p 2 by rw [show 4 + 12 * p + 10 = 420 * 0 + 12 + 12 * p + 2 by omega]; exact H.2.2.2 p hp 2 (by decide), I.2.2.2, Option.bind_some, Option.bind_some, q1, Option.bind_some, Int32.add_comm, Int32.add_sub_cancel]
      exact ⟨c0, rfl, q2⟩
theorem pm_waste {N : Nat} (H : ra_m A h) (ok : sa_ok A) (hp : p < 8) (hd : d ≤ 999) (hN : N ≤ 365) : ∃ c, gX11_waste (nI p) (nI d) (nI N) h = some (nI (sp_was (sa_S A) p d N), c) ∧ ra_m A c ∧ po_fr po_m353 h c := by
  obtain ⟨a, e1, e2, e3, e4⟩ := pm_aside H ok
  obtain ⟨c, g1, g2⟩ := pm_wasteL (a := a) (Q := fun c => ra_m A c ∧ po_fr po_m353 h c) ok.1.2 ok.2.2.2.2.2.2.1 hp hd hN e4 mm_F 0 (sa_S A) a e2.1.2 ok.1.2 (sp_sim0 _ _ _) (po_fx_refl a) (Nat.zero_le _) (Nat.lt_of_le_of_lt (Nat.sub_le _ _) (Nat.lt_of_le_of_lt hN (by decide)))
  refine ⟨c, ?_, g2⟩
  unfold gX11_waste
  rw [e1, Option.bind_some, pm_ofP (x := 10) (w := 10) rfl (by omega) (by decide), show (10 : Nat) = 8 + 2 from rfl, pm_zP e2 hp (by decide), Option.bind_some]
  exact g1
theorem op_waste_m {N : Nat} (H : ra_m A h) (ok : sa_ok A) (hp : p < sp_np (sa_C A)) (hd : d ≤ 999) (hN : N ≤ 365) : ∃ c, gX11_wasteWithDemand (nI p) (nI d) (nI N) h = some (nI (sp_was (sa_S A) p d N), c) ∧ mh_I c 352 9 = 0 ∧ ra_m A c ∧ po_fr po_fm h c := by
  have h8 := ok.1.1.1
  obtain ⟨c, g1, g2, g3⟩ := pm_waste (ra_m_9 (v := 0) H ok) ok (show p < 8 by omega) hd hN
  refine ⟨c, ?_, by rw [g3.1 352 (by decide), po_I1], g2, po_fr_trans po_fm9 (po_fm_m g3)⟩
  unfold gX11_wasteWithDemand
  rw [pm_isP H ok hp, Option.bind_some]
  refine po_jn (fun k1 j1 => ?_)
  rw [if_pos rfl, j1]
  dsimp only
  rw [po_in_in (y := 0) (z := 999) (Nat.zero_le _) hd (by decide) rfl rfl rfl, Option.bind_some]
  refine po_jn (fun k2 j2 => ?_)
  refine po_jn (fun k3 j3 => ?_)
  rw [if_pos rfl, po_in_in (y := 0) (z := 365) (Nat.zero_le _) hN (by decide) rfl rfl rfl, Option.bind_some, if_pos rfl, j2]
  dsimp only
  rw [po_fails_0, Option.bind_some, if_neg Bool.false_ne_true, g1, Option.bind_some]
theorem sp_was_le (ok : sp_ok S) (p d N : Nat) : sp_was S p d N ≤ 19980 := sp_sum999 ok (fun b hb => by
  have := (ok.2.1 b hb).2.1
  by_cases hc : sp_b S b 0 = p ∧ sp_D S b < N
  · rw [if_pos hc]
    omega
  · rw [if_neg hc]
    omega) (Nat.le_refl _)
/-- halving -/
theorem pm_half {l : Nat} (ok : sa_ok A) (hp : p < 8) (hl : l ≤ 999) (hw : ∀ m, m ≤ 999 → (sp_was (sa_S A) p m 365 = 0 ↔ l ≤ m)) : ∀ n lo hi h, ra_m A h → lo ≤ l → l ≤ hi → hi ≤ 999 → hi - lo < n →
    ∃ c, gX11_demandWithoutWaste_L46 (nI p) n (nI lo) (nI hi) h = some (nI l, c) ∧ ra_m A c ∧ po_fr po_m353 h c := by
  intro n
  induction n with
  | zero => intro lo hi h _ _ _ _ h9; omega
  | succ n ih =>
    intro lo hi h H h1 h2 h3 hn
    rw [gX11_demandWithoutWaste_L46]
    by_cases hlt : lo < hi
    · have hw2 := sp_was_le ok.1.2 p ((lo + hi) / 2) 365
      obtain ⟨c, g1, g2, g3⟩ := pm_waste (d := (lo + hi) / 2) (N := 365) H ok hp (by omega) (by decide)
      rw [if_pos (nI_lt hlt (by omega)), nI_add, show (2 : Int32) = nI 2 from rfl, pk_div (by omega) (by decide) (by decide), Option.bind_some, show (365 : Int32) = nI 365 from rfl, g1, Option.bind_some]
      by_cases hz : sp_was (sa_S A) p ((lo + hi) / 2) 365 = 0
      · obtain ⟨c2, k1, k2, k3⟩ := ih lo ((lo + hi) / 2) c g2 h1 ((hw _ (by omega)).mp hz) (by omega) (by omega)
        refine ⟨c2, ?_, k2, po_fr_trans g3 k3⟩
        refine po_jn (fun j e => ?_)
        rw [hz, if_pos (show nI 0 = 0 from rfl), e]
        exact k1
      · have hlm : ¬ l ≤ (lo + hi) / 2 := fun z => hz ((hw _ (by omega)).mpr z)
        obtain ⟨c2, k1, k2, k3⟩ := ih ((lo + hi) / 2 + 1) hi c g2 (by omega) h2 h3 (by omega)
        refine ⟨c2, ?_, k2, po_fr_trans g3 k3⟩
        refine po_jn (fun j e => ?_)
        rw [if_neg (nI_ne0 (by omega) (by omega)), Option.bind_some, nI_1, e]
        exact k1
    · rw [if_neg (nI_nlt (by omega) (by omega)), show lo = l by omega]
      exact ⟨h, rfl, H, po_fr_refl h⟩
def sp_lv : Option Nat → Int32
  | some l => if l ≤ 999 then nI l else -1
  | none => -1
/-- the least demand without waste, from what is known of waste -/
theorem op_least_m {r : Option Nat} (H : ra_m A h) (ok : sa_ok A) (hp : p < sp_np (sa_C A)) (hw : ∀ m, m ≤ 999 → (sp_was (sa_S A) p m 365 = 0 ↔ ∃ l, r = some l ∧ l ≤ m)) :
    ∃ c, gX11_demandWithoutWaste (nI p) h = some (sp_lv r, c) ∧ mh_I c 352 9 = 0 ∧ ra_m A c ∧ po_fr po_fm h c := by
  have h8 := ok.1.1.1
  have hw9 := sp_was_le ok.1.2 p 999 365
  obtain ⟨c, g1, g2, g3⟩ := pm_waste (d := 999) (N := 365) (ra_m_9 (v := 0) H ok) ok (show p < 8 by omega) (by decide) (by decide)
  have enter : ∀ (v : Int32) (c2 : mm_H), (if 0 < nI (sp_was (sa_S A) p 999 365) then some (-1, c) else gX11_demandWithoutWaste_L46 (nI p) mm_F 0 999 c) = some (v, c2) → gX11_demandWithoutWaste (nI p) h = some (v, c2) := fun v c2 hh => by
    unfold gX11_demandWithoutWaste
    rw [pm_isP H ok hp, Option.bind_some]
    refine po_jn (fun k1 j1 => ?_)
    rw [if_pos rfl, j1]
    dsimp only
    rw [po_fails_0, Option.bind_some, if_neg Bool.false_ne_true, show gX11_waste (nI p) 999 365 (ms_I h 352 9 0) = _ from g1, Option.bind_some]
    exact hh
  by_cases hz : sp_was (sa_S A) p 999 365 = 0
  · obtain ⟨l, hr, hl⟩ := (hw 999 (Nat.le_refl _)).mp hz
    subst hr
    obtain ⟨c2, k1, k2, k3⟩ := pm_half (l := l) ok (show p < 8 by omega) hl (fun m hm => (hw m hm).trans ⟨fun ⟨l', e1, e2⟩ => by rw [← Option.some.inj e1] at e2; exact e2, fun e => ⟨l, rfl, e⟩⟩) mm_F 0 999 c g2 (Nat.zero_le _) hl (Nat.le_refl _) (by decide)
    have f := po_fr_trans g3 k3
    refine ⟨c2, enter _ _ ?_, by rw [f.1 352 (by decide), po_I1], k2, po_fr_trans po_fm9 (po_fm_m f)⟩
    rw [hz, if_neg (by decide)]
    show _ = some ((if l ≤ 999 then nI l else -1), c2)
    rw [if_pos hl]
    exact k1
  · refine ⟨c, enter _ _ ?_, by rw [g3.1 352 (by decide), po_I1], g2, po_fr_trans po_fm9 (po_fm_m g3)⟩
    rw [if_pos (po_0lt (by omega) (by omega))]
    cases r with
    | none => rfl
    | some l =>
      have : ¬ l ≤ 999 := fun z => hz ((hw 999 (Nat.le_refl _)).mpr ⟨l, rfl, z⟩)
      show _ = some ((if l ≤ 999 then nI l else -1), c)
      rw [if_neg this]
end PQN

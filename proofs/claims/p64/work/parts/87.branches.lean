section PPL
/-! the law's small loops -/
variable {A : sp_A} {o : Nat} {h : mm_H}
theorem sp_cost_le {f c : Nat → Nat} (hc : ∀ z, c z ≤ 999) : ∀ {l : List Nat} {q : Nat}, sp_cost f c l q ≤ q * 999
  | [], q => Nat.zero_le _
  | b :: t, q => by
    have h1 := sp_cost_le (f := f) hc (l := t) (q := q - min q (f b))
    have h2 : min q (f b) * c b ≤ min q (f b) * 999 := Nat.mul_le_mul_left _ (hc b)
    have h3 : min q (f b) ≤ q := Nat.min_le_left _ _
    show min q (f b) * c b + sp_cost f c t (q - min q (f b)) ≤ q * 999
    omega
theorem sp_cost_eqm {f c d : Nat → Nat} : ∀ {l : List Nat} {q : Nat}, (∀ z, z ∈ l → c z = d z) → sp_cost f c l q = sp_cost f d l q := fun h => sp_cost_eq (fun z hz => ⟨rfl, h z hz⟩)
theorem sp_icost_le {S : sp_S} (ok : sp_ok S) (p q : Nat) : sp_icost S p q ≤ q * 999 := by
  have e : sp_icost S p q = sp_cost (sp_free S) (fun b => min (sp_b S b 3) 999) (sp_ord S p (sp_dy S)) q := sp_cost_eqm (fun z hz => (Nat.min_eq_left (ok.2.1 z (sp_ordk_mem.mp hz).1).2.2.2.1).symm)
  rw [e]
  exact sp_cost_le (fun z => Nat.min_le_right _ _)
/-- a new row of zeros -/
theorem lw_L321 {u1 u2 u3 u4 u5 : Int32} {r nb : Nat} (ho : 352 ≤ o) (hr : r < 10) (hn : nb ≤ 20) (k : mm_H → Option ((Bool ⊕ String) × mm_H)) : ∀ d n b h, mh_I h o 3 = nI nb → (∀ x, x < b → mh_I h (o + 3 + r) x = 0) → b + d = nb → d < n →
    ∃ h', gL_law_L321 o u1 u2 u3 u4 u5 (nI r) k n (nI b) h = k h' ∧ (∀ x, x < nb → mh_I h' (o + 3 + r) x = 0) ∧ (∀ q j, q ≠ o + 3 + r → mh_I h' q j = mh_I h q j) ∧ po_fr po_ow h h' := by
  intro d
  induction d with
  | zero =>
    intro n b h e3 hz hd hn2
    obtain ⟨m, rfl⟩ : ∃ m, n = m + 1 := ⟨n - 1, by omega⟩
    refine ⟨h, ?_, fun x hx => hz x (by omega), fun _ _ _ => rfl, po_fr_refl h⟩
    rw [gL_law_L321, e3, if_neg (nI_nlt (by omega) (by omega))]
  | succ d ih =>
    intro n b h e3 hz hd hn2
    obtain ⟨m, rfl⟩ : ∃ m, n = m + 1 := ⟨n - 1, by omega⟩
    have f1 : po_fr po_ow h (ms_I h (o + 3 + r) b 0) := po_fr_I (decide_eq_true (by omega))
    obtain ⟨h', g1, g2, g3, g4⟩ := ih m (b + 1) (ms_I h (o + 3 + r) b 0) ((po_I3 (by omega)).trans e3) (fun x hx => by
      by_cases hxb : x = b
      · rw [hxb, po_I1]
      · rw [po_I4 hxb]
        exact hz x (by omega)) (by omega) (by omega)
    refine ⟨h', ?_, g2, fun q j hq => (g3 q j hq).trans (po_I3 hq), po_fr_trans f1 g4⟩
    rw [gL_law_L321, e3, if_pos (nI_lt (by omega) (by omega)), if_pos (po_ibd (n := 10) (by omega) (by decide)), if_pos (po_ibd (n := 20) (by omega) (by decide)), Option.bind_some, Option.bind_some, nI_clamp (show r < 2 ^ 31 by omega), nI_clamp (show b < 2 ^ 31 by omega), nI_1]
    exact g1
/-- no unit of a reservation expires before its day -/
theorem lw_L389 {u1 u2 : Int32} {r d0 : Nat} (H : ra_c A h) (ok : sa_ok A) (K : so_S (sa_S A) o h) (hr : r < sp_nr (sa_S A)) (hd0 : d0 < 2 ^ 31) (hex : ∀ b, b < sp_nb (sa_S A) → 0 < sp_al (sa_S A) r b → d0 ≤ sp_b (sa_S A) b 2) (k : mm_H → Option ((Bool ⊕ String) × mm_H)) : ∀ d n b, b + d = sp_nb (sa_S A) → d < n → gL_law_L389 o u1 u2 (nI d0) (nI r) k n (nI b) h = k h := by
  have hn9 := ok.1.2.1.2.2
  have hm9 := ok.1.2.1.2.1
  intro d
  induction d with
  | zero =>
    intro n b hd hn
    obtain ⟨m, rfl⟩ : ∃ m, n = m + 1 := ⟨n - 1, by omega⟩
    rw [gL_law_L389, K.1, if_neg (nI_nlt (by omega) (by omega))]
  | succ d ih =>
    intro n b hd hn
    obtain ⟨m, rfl⟩ : ∃ m, n = m + 1 := ⟨n - 1, by omega⟩
    have hb : b < sp_nb (sa_S A) := by omega
    obtain ⟨q1, q2, q3, q4, q5⟩ := ok.1.2.2.1 b hb
    have hal := ((ok.1.2.2.2 r hr).2.2.2.2.1 b (by omega)).1
    have hrec := ih m (b + 1) (by omega) (by omega)
    rw [gL_law_L389, K.1, if_pos (nI_lt hb (by omega)), if_pos (po_ibd (n := 10) (by omega) (by decide)), if_pos (po_ibd (n := 20) (by omega) (by decide))]
    refine po_jn (fun k1 e1 => ?_)
    rw [nI_clamp (show r < 2 ^ 31 by omega), nI_clamp (show b < 2 ^ 31 by omega), K.2.2.2 r hr b hb]
    by_cases h0 : 0 < sp_al (sa_S A) r b
    · rw [if_pos (po_0lt h0 (by omega)), cq_expiryDay H ok hb, Option.bind_some]
      dsimp only
      rw [if_neg (nI_nlt (hex b hb h0) (by omega)), e1]
      dsimp only
      rw [Option.bind_some, nI_1]
      exact hrec
    · rw [if_neg (po_n0lt h0), e1]
      dsimp only
      rw [Option.bind_some, nI_1]
      exact hrec
/-- the units of a reservation leave -/
def so_ship (S : sp_S) (w i : Nat) : sp_S := (S.1, (fun b v => if v = 1 ∧ b < i then sp_b S b 1 - sp_al S w b else sp_b S b v), S.2.2)
theorem lw_L599 {u1 u2 : Int32} {w : Nat} (ok : sa_ok A) (ho : 352 ≤ o) (hw : w < sp_nr (sa_S A)) (hle : ∀ b, b < sp_nb (sa_S A) → sp_al (sa_S A) w b ≤ sp_b (sa_S A) b 1) (k : Int32 → mm_H → Option ((Bool ⊕ String) × mm_H)) : ∀ d n b h, ra_c A h → so_S (so_ship (sa_S A) w b) o h → b + d = sp_nb (sa_S A) → d < n →
    ∃ h', gL_law_L599 o u1 u2 (nI w) k n (nI (sp_sum (fun b => sp_al (sa_S A) w b * sp_b (sa_S A) b 3) b)) (nI b) h = k (nI (sp_shipCost (sa_S A) w)) h' ∧ so_S (so_ship (sa_S A) w (sp_nb (sa_S A))) o h' ∧ po_fr po_ow h h' := by
  have hn9 := ok.1.2.1.2.2
  have hm9 := ok.1.2.1.2.1
  intro d
  induction d with
  | zero =>
    intro n b h H K hd hn
    obtain ⟨m, rfl⟩ : ∃ m, n = m + 1 := ⟨n - 1, by omega⟩
    obtain rfl : b = sp_nb (sa_S A) := by omega
    have k1 : mh_I h o 3 = nI (sp_nb (sa_S A)) := K.1
    refine ⟨h, ?_, K, po_fr_refl h⟩
    rw [gL_law_L599, k1, if_neg (nI_nlt (Nat.le_refl _) (by omega))]
    rfl
  | succ d ih =>
    intro n b h H K hd hn
    obtain ⟨m, rfl⟩ : ∃ m, n = m + 1 := ⟨n - 1, by omega⟩
    have hb : b < sp_nb (sa_S A) := by omega
    obtain ⟨k1, k2, k3, k4⟩ := K
    have k1' : mh_I h o 3 = nI (sp_nb (sa_S A)) := k1
    have e1 : mh_I h (o + 1) b = nI (sp_b (sa_S A) b 1) := (k3 b hb).trans (congrArg nI (if_neg (fun z => by omega)))
    have e2 : mh_I h (o + 3 + w) b = nI (sp_al (sa_S A) w b) := k4 w hw b hb
    have ev : mh_I h (o + 1) b - mh_I h (o + 3 + w) b = nI (sp_b (sa_S A) b 1 - sp_al (sa_S A) w b) := by rw [e1, e2, pk_sub (hle b hb)]
    have f1 : po_fr po_ow h (ms_I h (o + 1) b (nI (sp_b (sa_S A) b 1 - sp_al (sa_S A) w b))) := po_fr_I (decide_eq_true (by omega))
    have H1 := ra_c_ow H f1
    have K1 : so_S (so_ship (sa_S A) w (b + 1)) o (ms_I h (o + 1) b (nI (sp_b (sa_S A) b 1 - sp_al (sa_S A) w b))) := by
      refine ⟨(po_I3 (by omega)).trans k1, (po_I3 (by omega)).trans k2, fun x hx => ?_, fun r hr x hx => (po_I3 (by omega)).trans (k4 r hr x hx)⟩
      show _ = nI (if 1 = 1 ∧ x < b + 1 then sp_b (sa_S A) x 1 - sp_al (sa_S A) w x else sp_b (sa_S A) x 1)
      by_cases hxb : x = b
      · rw [hxb, po_I1, if_pos ⟨rfl, Nat.lt_succ_self b⟩]
      · rw [po_I4 hxb, k3 x hx]
        show nI (if 1 = 1 ∧ x < b then sp_b (sa_S A) x 1 - sp_al (sa_S A) w x else sp_b (sa_S A) x 1) = _
        by_cases hlt : x < b
        · rw [if_pos ⟨rfl, hlt⟩, if_pos ⟨rfl, by omega⟩]
        · rw [if_neg (fun z => hlt z.2), if_neg (fun z => by omega)]
    obtain ⟨h', g1, g2, g3⟩ := ih m (b + 1) _ H1 K1 (by omega) (by omega)
    refine ⟨h', ?_, g2, po_fr_trans f1 g3⟩
    have b20 : mm_ibd (nI b) 20 = true := po_ibd (by omega) (by decide)
    have w10 : mm_ibd (nI w) 10 = true := po_ibd (by omega) (by decide)
    rw [gL_law_L599, k1', if_pos (nI_lt hb (by omega)), if_pos b20, if_pos w10, if_pos b20, if_pos b20, Option.bind_some, if_pos w10, if_pos b20, nI_clamp (show w < 2 ^ 31 by omega), nI_clamp (show b < 2 ^ 31 by omega), ev, cq_unitCost H1 ok hb, Option.bind_some]
    dsimp only
    rw [po_I3 (show o + 3 + w ≠ o + 1 by omega), e2, pk_mul, nI_add, Option.bind_some, Option.bind_some, nI_1]
    exact g1
end PPL

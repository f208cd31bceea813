section POY
/-! the law's Stock reads the class, and agrees with it -/
variable {A : sp_A} {o : Nat} {h : mm_H}
/-- a step between states that leaves all but column b of the allocations -/
def so_cl (o b : Nat) (h h' : mm_H) : Prop := (∀ q j, ((q < o + 3 ∨ o + 13 ≤ q) ∨ j ≠ b) → mh_I h' q j = mh_I h q j) ∧ po_fr po_ow h h'
theorem so_read_in (ok : sa_ok A) (ho : 352 ≤ o) {b : Nat} (hb : b < sp_nb (sa_S A)) (k : mm_H → Option ((Unit ⊕ String) × mm_H)) : ∀ d n r h, ra_c A h → mh_I h o 4 = nI (sp_nr (sa_S A)) → (∀ r', r' < r → mh_I h (o + 3 + r') b = nI (sp_al (sa_S A) r' b)) → r + d = sp_nr (sa_S A) → d < n →
    ∃ h', gX11_read_L48 o (nI b) k n (nI r) h = k h' ∧ (∀ r', r' < sp_nr (sa_S A) → mh_I h' (o + 3 + r') b = nI (sp_al (sa_S A) r' b)) ∧ so_cl o b h h' := by
  have hn9 := ok.1.2.1.2.2
  have hm9 := ok.1.2.1.2.1
  intro d
  induction d with
  | zero =>
    intro n r h H e4 hr hd hn
    obtain ⟨m, rfl⟩ : ∃ m, n = m + 1 := ⟨n - 1, by omega⟩
    refine ⟨h, ?_, fun r' hr' => hr r' (by omega), fun _ _ _ => rfl, po_fr_refl h⟩
    rw [gX11_read_L48, e4, if_neg (nI_nlt (by omega) (by omega))]
  | succ d ih =>
    intro n r h H e4 hr hd hn
    obtain ⟨m, rfl⟩ : ∃ m, n = m + 1 := ⟨n - 1, by omega⟩
    have f1 : po_fr po_ow h (ms_I h (o + 3 + r) b (nI (sp_al (sa_S A) r b))) := po_fr_I (decide_eq_true (by omega))
    have H1 := ra_c_ow H f1
    obtain ⟨h', g1, g2, g3, g4⟩ := ih m (r + 1) (ms_I h (o + 3 + r) b (nI (sp_al (sa_S A) r b))) H1 ((po_I3 (by omega)).trans e4) (fun r' hr' => by
      by_cases hrr : r' = r
      · rw [hrr, po_I1]
      · rw [po_I3 (by omega)]
        exact hr r' (by omega)) (by omega) (by omega)
    refine ⟨h', ?_, g2, fun q j hq => ?_, po_fr_trans f1 g4⟩
    · rw [gX11_read_L48, e4, if_pos (nI_lt (by omega) (by omega)), if_pos (po_ibd (n := 10) (by omega) (by decide)), cq_allocation H ok (by omega) hb, Option.bind_some]
      dsimp only
      rw [if_pos (po_ibd (n := 20) (by omega) (by decide)), Option.bind_some, Option.bind_some, nI_clamp (show r < 2 ^ 31 by omega), nI_clamp (show b < 2 ^ 31 by omega), nI_1]
      exact g1
    · rw [g3 q j hq]
      rcases hq with hq | hq
      · exact po_I3 (by omega)
      · by_cases hqr : q = o + 3 + r
        · rw [hqr]
          exact po_I4 hq
        · exact po_I3 hqr
theorem so_read_L (ok : sa_ok A) (ho : 352 ≤ o) : ∀ d n b h, ra_c A h → mh_I h o 3 = nI (sp_nb (sa_S A)) → mh_I h o 4 = nI (sp_nr (sa_S A)) → (∀ x, x < b → mh_I h (o + 1) x = nI (sp_b (sa_S A) x 1)) → (∀ r, r < sp_nr (sa_S A) → ∀ x, x < b → mh_I h (o + 3 + r) x = nI (sp_al (sa_S A) r x)) → b + d = sp_nb (sa_S A) → d < n →
    ∃ h', gX11_read_L24 o n (nI b) h = some (.inl (), h') ∧ so_S (sa_S A) o h' ∧ po_fr po_ow h h' := by
  have hn9 := ok.1.2.1.2.2
  have hm9 := ok.1.2.1.2.1
  intro d
  induction d with
  | zero =>
    intro n b h H e3 e4 hq hp hd hn
    obtain ⟨m, rfl⟩ : ∃ m, n = m + 1 := ⟨n - 1, by omega⟩
    obtain rfl : b = sp_nb (sa_S A) := by omega
    refine ⟨h, ?_, ⟨e3, e4, hq, hp⟩, po_fr_refl h⟩
    rw [gX11_read_L24, e3, if_neg (nI_nlt (Nat.le_refl _) (by omega))]
  | succ d ih =>
    intro n b h H e3 e4 hq hp hd hn
    obtain ⟨m, rfl⟩ : ∃ m, n = m + 1 := ⟨n - 1, by omega⟩
    have hb : b < sp_nb (sa_S A) := by omega
    have f1 : po_fr po_ow h (ms_I h (o + 1) b (nI (sp_b (sa_S A) b 1))) := po_fr_I (decide_eq_true (by omega))
    have H1 := ra_c_ow H f1
    obtain ⟨h2, g1, g2, g3, g4⟩ := so_read_in ok ho hb (fun (h17 : mm_H) => (some (nI b + 1)).bind (fun (x19 : Int32) => gX11_read_L24 o m x19 h17)) (sp_nr (sa_S A)) mm_F 0 _ H1 ((po_I3 (by omega)).trans e4) (fun r' hr' => by omega) (by omega) (Nat.lt_of_le_of_lt hn9 (by decide))
    have H2 := ra_c_ow H1 g4
    obtain ⟨h3, k1, k2, k3⟩ := ih m (b + 1) h2 H2 (by rw [g3 o 3 (Or.inl (by omega)), po_I3 (by omega)]; exact e3) (by rw [g3 o 4 (Or.inl (by omega)), po_I3 (by omega)]; exact e4) (fun x hx => by
      rw [g3 (o + 1) x (Or.inl (by omega))]
      by_cases hxb : x = b
      · rw [hxb, po_I1]
      · rw [po_I4 hxb]
        exact hq x (by omega)) (fun r hr x hx => by
      by_cases hxb : x = b
      · rw [hxb]
        exact g2 r hr
      · rw [g3 _ _ (Or.inr hxb), po_I3 (by omega)]
        exact hp r hr x (by omega)) (by omega) (by omega)
    refine ⟨h3, ?_, k2, po_fr_trans f1 (po_fr_trans g4 k3)⟩
    rw [gX11_read_L24, e3, if_pos (nI_lt hb (by omega)), cq_quantity H ok hb, Option.bind_some]
    dsimp only [mm_jn]
    rw [if_pos (po_ibd (n := 20) (by omega) (by decide)), Option.bind_some, nI_clamp (show b < 2 ^ 31 by omega), show (0 : Int32) = nI 0 from rfl, g1, Option.bind_some, nI_1]
    exact k1
theorem so_read (H : ra_c A h) (ok : sa_ok A) (ho : 352 ≤ o) : ∃ h', gX11_read o h = some (.inl (), h') ∧ so_S (sa_S A) o h' ∧ po_fr po_ow h h' := by
  have hm9 := ok.1.2.1.2.1
  have f1 : po_fr po_ow h (ms_I h o 3 (nI (sp_nb (sa_S A)))) := po_fr_I (decide_eq_true ho)
  have H1 := ra_c_ow H f1
  have f2 : po_fr po_ow (ms_I h o 3 (nI (sp_nb (sa_S A)))) (ms_I (ms_I h o 3 (nI (sp_nb (sa_S A)))) o 4 (nI (sp_nr (sa_S A)))) := po_fr_I (decide_eq_true ho)
  have H2 := ra_c_ow H1 f2
  obtain ⟨h', g1, g2, g3⟩ := so_read_L ok ho (sp_nb (sa_S A)) mm_F 0 _ H2 ((po_I4 (by decide)).trans po_I1) po_I1 (fun x hx => by omega) (fun r hr x hx => by omega) (by omega) (Nat.lt_of_le_of_lt hm9 (by decide))
  refine ⟨h', ?_, g2, po_fr_trans f1 (po_fr_trans f2 g3)⟩
  unfold gX11_read
  rw [cq_batchCount H, Option.bind_some, Option.bind_some, cq_reservationCount H1, Option.bind_some, Option.bind_some]
  exact g1
/-! agrees -/
theorem so_agr61 (H : ra_c A h) (ok : sa_ok A) (K : so_S (sa_S A) o h) {b : Nat} (hb : b < sp_nb (sa_S A)) (k : mm_H → Option ((Bool ⊕ String) × mm_H)) : ∀ d n r, r + d = sp_nr (sa_S A) → d < n → gX11_agrees_L61 o (nI b) k n (nI r) h = k h := by
  have hn9 := ok.1.2.1.2.2
  have hm9 := ok.1.2.1.2.1
  intro d
  induction d with
  | zero =>
    intro n r hd hn
    obtain ⟨m, rfl⟩ : ∃ m, n = m + 1 := ⟨n - 1, by omega⟩
    rw [gX11_agrees_L61, K.2.1, if_neg (nI_nlt (by omega) (by omega))]
  | succ d ih =>
    intro n r hd hn
    obtain ⟨m, rfl⟩ : ∃ m, n = m + 1 := ⟨n - 1, by omega⟩
    rw [gX11_agrees_L61, K.2.1, if_pos (nI_lt (by omega) (by omega)), cq_allocation H ok (by omega) hb, Option.bind_some]
    dsimp only
    rw [if_pos (po_ibd (n := 10) (by omega) (by decide)), if_pos (po_ibd (n := 20) (by omega) (by decide)), nI_clamp (show r < 2 ^ 31 by omega), nI_clamp (show b < 2 ^ 31 by omega), K.2.2.2 r (by omega) b hb, if_pos rfl, Option.bind_some, nI_1]
    exact ih m (r + 1) (by omega) (by omega)
theorem so_agr117 (H : ra_c A h) (ok : sa_ok A) (K : so_S (sa_S A) o h) {r : Nat} (hr : r < sp_nr (sa_S A)) (k : Int32 → Option ((Bool ⊕ String) × mm_H)) : ∀ d n b, b + d = sp_nb (sa_S A) → d < n → gX11_agrees_L117 o (nI r) k h n (nI (sp_sum (fun b => sp_al (sa_S A) r b) b)) (nI b) = k (nI (sp_alls (sa_S A) r)) := by
  have hn9 := ok.1.2.1.2.2
  have hm9 := ok.1.2.1.2.1
  intro d
  induction d with
  | zero =>
    intro n b hd hn
    obtain ⟨m, rfl⟩ : ∃ m, n = m + 1 := ⟨n - 1, by omega⟩
    obtain rfl : b = sp_nb (sa_S A) := by omega
    rw [gX11_agrees_L117, K.1, if_neg (nI_nlt (Nat.le_refl _) (by omega))]
    rfl
  | succ d ih =>
    intro n b hd hn
    obtain ⟨m, rfl⟩ : ∃ m, n = m + 1 := ⟨n - 1, by omega⟩
    rw [gX11_agrees_L117, K.1, if_pos (nI_lt (by omega) (by omega)), if_pos (po_ibd (n := 10) (by omega) (by decide)), if_pos (po_ibd (n := 20) (by omega) (by decide)), Option.bind_some, Option.bind_some, nI_clamp (show r < 2 ^ 31 by omega), nI_clamp (show b < 2 ^ 31 by omega), K.2.2.2 r hr b (by omega), nI_add, nI_1]
    exact ih m (b + 1) (by omega) (by omega)
theorem so_agr117' (H : ra_c A h) (ok : sa_ok A) (K : so_S (sa_S A) o h) {r : Nat} (hr : r < sp_nr (sa_S A)) (k : Int32 → Option ((Bool ⊕ String) × mm_H)) : gX11_agrees_L117 o (nI r) k h mm_F 0 0 = k (nI (sp_alls (sa_S A) r)) := by
  have e := so_agr117 H ok K hr k (sp_nb (sa_S A)) mm_F 0 (by omega) (Nat.lt_of_le_of_lt ok.1.2.1.2.1 (by decide))
  rw [show nI (sp_sum (fun b => sp_al (sa_S A) r b) 0) = 0 from rfl, show nI 0 = 0 from rfl] at e
  exact e
theorem so_agr61' (H : ra_c A h) (ok : sa_ok A) (K : so_S (sa_S A) o h) {b : Nat} (hb : b < sp_nb (sa_S A)) (k : mm_H → Option ((Bool ⊕ String) × mm_H)) : gX11_agrees_L61 o (nI b) k mm_F 0 h = k h := by
  have e := so_agr61 H ok K hb k (sp_nr (sa_S A)) mm_F 0 (by omega) (Nat.lt_of_le_of_lt ok.1.2.1.2.2 (by decide))
  rw [show nI 0 = 0 from rfl] at e
  exact e
theorem so_agr105 (H : ra_c A h) (ok : sa_ok A) (K : so_S (sa_S A) o h) (hac : sp_sum (fun p => if nI (sp_stock (sa_S A) p) = sp_told (sa_S A) p then 0 else 1) (sp_np (sa_C A)) = 0) : ∀ d n r, r + d = sp_nr (sa_S A) → d < n → gX11_agrees_L105 o n (nI r) h = some (.inl true, h) := by
  have hn9 := ok.1.2.1.2.2
  have hm9 := ok.1.2.1.2.1
  intro d
  induction d with
  | zero =>
    intro n r hd hn
    obtain ⟨m, rfl⟩ : ∃ m, n = m + 1 := ⟨n - 1, by omega⟩
    rw [gX11_agrees_L105, K.2.1, if_neg (nI_nlt (by omega) (by omega)), cq_batchCount H, Option.bind_some, if_pos K.1.symm, cq_reservationCount H, Option.bind_some, if_pos rfl, cq_inconsistencies H ok, Option.bind_some, hac, if_pos (show nI 0 = 0 from rfl)]
  | succ d ih =>
    intro n r hd hn
    obtain ⟨m, rfl⟩ : ∃ m, n = m + 1 := ⟨n - 1, by omega⟩
    have hr : r < sp_nr (sa_S A) := by omega
    have hal := sp_alls_le ok.1.2 hr
    obtain ⟨w1, w2, w3, w4, w5, w6⟩ := ok.1.2.2.2 r hr
    have hlk : sp_lack (sa_S A) r ≤ 9999 := by
      unfold sp_lack
      split <;> omega
    rw [gX11_agrees_L105, K.2.1, if_pos (nI_lt (by omega) (by omega))]
    refine po_jn (fun k1 e1 => ?_)
    rw [so_agr117' H ok K hr, e1]
    dsimp only
    rw [cq_missing H ok hr, Option.bind_some]
    dsimp only
    rw [cq_isOpen H ok hr, Option.bind_some]
    dsimp only [mm_jn]
    have hrec := ih m (r + 1) (by omega) (by omega)
    by_cases h3 : sp_r (sa_S A) r 3 = 0
    · have e : nI (sp_lack (sa_S A) r) = nI (sp_r (sa_S A) r 1) - nI (sp_alls (sa_S A) r) := by
        rw [pk_sub (w6 h3), sp_lack, if_pos h3]
      rw [if_pos (decide_eq_true h3), cq_reservedQuantity H ok hr, Option.bind_some]
      dsimp only
      rw [if_pos e, cq_missing H ok hr, Option.bind_some]
      dsimp only
      rw [if_neg (nI_pos (by omega)), Option.bind_some, nI_1]
      exact hrec
    · have e : nI (sp_lack (sa_S A) r) = 0 := by
        rw [sp_lack, if_neg h3]
        rfl
      rw [if_neg (by rw [decide_eq_false h3]; decide), if_pos e, cq_missing H ok hr, Option.bind_some]
      dsimp only
      rw [if_neg (nI_pos (by omega)), Option.bind_some, nI_1]
      exact hrec
theorem so_agrees (H : ra_c A h) (ok : sa_ok A) (K : so_S (sa_S A) o h) (hac : sp_sum (fun p => if nI (sp_stock (sa_S A) p) = sp_told (sa_S A) p then 0 else 1) (sp_np (sa_C A)) = 0) : gX11_agrees o h = some (.inl true, h) := by
  have hn9 := ok.1.2.1.2.2
  have hm9 := ok.1.2.1.2.1
  have loop : ∀ d n b, b + d = sp_nb (sa_S A) → d < n → gX11_agrees_L2 o n (nI b) h = some (.inl true, h) := by
    intro d
    induction d with
    | zero =>
      intro n b hd hn
      obtain ⟨m, rfl⟩ : ∃ m, n = m + 1 := ⟨n - 1, by omega⟩
      rw [gX11_agrees_L2, K.1, if_neg (nI_nlt (by omega) (by omega))]
      exact so_agr105 H ok K hac (sp_nr (sa_S A)) mm_F 0 (by omega) (Nat.lt_of_le_of_lt hn9 (by decide))
    | succ d ih =>
      intro n b hd hn
      obtain ⟨m, rfl⟩ : ∃ m, n = m + 1 := ⟨n - 1, by omega⟩
      have hb : b < sp_nb (sa_S A) := by omega
      obtain ⟨q1, q2, q3, q4, q5⟩ := ok.1.2.2.1 b hb
      have hh := so_held H ok (so_C_refl _) ok.1.2 K hb
      rw [gX11_agrees_L2, K.1, if_pos (nI_lt hb (by omega)), cq_quantity H ok hb, Option.bind_some]
      dsimp only [mm_jn]
      rw [if_pos (po_ibd (n := 20) (by omega) (by decide)), nI_clamp (show b < 2 ^ 31 by omega), K.2.2.1 b hb, if_pos rfl, cq_reservedOf H ok hb, Option.bind_some]
      dsimp only
      rw [hh, Option.bind_some]
      dsimp only
      rw [if_pos rfl, if_pos (po_ibd (n := 20) (by omega) (by decide)), hh, Option.bind_some]
      dsimp only
      rw [K.2.2.1 b hb, if_neg (nI_nlt q5 (by omega))]
      rw [so_agr61' H ok K hb]
      try dsimp only
      rw [Option.bind_some, nI_1]
      exact ih m (b + 1) (by omega) (by omega)
  unfold gX11_agrees
  exact loop (sp_nb (sa_S A)) mm_F 0 (by omega) (Nat.lt_of_le_of_lt hm9 (by decide))
end POY

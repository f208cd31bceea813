section PQO
/-! forecasts in the class -/
variable {A : sp_A} {S : sp_S} {p d n : Nat} {h : mm_H} {f D u : Nat → Nat}
theorem po_max0 {y : Int32} (h : y < 0) : mm_max 0 y = 0 := by
  unfold mm_max
  rw [if_neg (Int32.not_lt.mpr (Int32.le_of_lt h))]
theorem po_days {a b : Nat} (ha : a < 2 ^ 29) (hb : b < 2 ^ 29) : mm_max 0 (nI a - nI b + 1) = nI (a + 1 - b) := by
  have e : nI a - nI b + 1 = nI (a + 1) - nI b := by
    rw [Int32.sub_eq_add_neg, Int32.add_assoc, Int32.add_comm (-nI b) 1, ← Int32.add_assoc, nI_1, ← Int32.sub_eq_add_neg]
  rw [e]
  rcases Nat.lt_or_ge (a + 1) b with h1 | h1
  · rw [po_max0 (pk_sneg (by omega) h1), Nat.sub_eq_zero_of_le (by omega)]
    rfl
  · rw [pk_sub h1, show (0 : Int32) = nI 0 from rfl, po_maxN (by decide) (by omega), Nat.max_eq_right (Nat.zero_le _)]
theorem pc_D (H : sc_S S 21 h) (ok : sp_ok S) {b : Nat} (hb : b < sp_nb S) : gX7_daysOnSale 21 (nI b) h = some (nI (sp_D S b)) := by
  have h9 := (ok.2.1 b hb).2.2.1
  have hdy := ok.1.1
  unfold gX7_daysOnSale sp_D
  rw [pc_g7 po_k21 H ok hb, Option.bind_some, H.1.1, po_days (by omega) (by omega)]
theorem sp_D_le (ok : sp_ok S) {b : Nat} (hb : b < sp_nb S) : sp_D S b ≤ 10000 := by
  have h9 := (ok.2.1 b hb).2.2.1
  unfold sp_D
  omega
theorem pc_taken (H : sc_S S 21 h) (ok : sp_ok S) {b c : Nat} (hb : b < sp_nb S) (hd : d ≤ 999) (hc : c ≤ 20000) : gX7_takenInTime 21 (nI b) (nI d) (nI c) h = some (nI (sp_c1 d (sp_free S) (sp_D S) c b - c)) := by
  have hf := sp_free_le ok hb
  have hM : d * sp_D S b ≤ 999 * 10000 := Nat.mul_le_mul hd (sp_D_le ok hb)
  unfold gX7_takenInTime sp_c1
  rw [pc_D H ok hb, Option.bind_some, Option.bind_some, pc_free po_k21 H ok hb, Option.bind_some, pk_mul]
  generalize d * sp_D S b = M at hM ⊢
  refine congrArg some ?_
  rcases Nat.lt_or_ge M c with h1 | h1
  · have h2 : nI M - nI c < 0 := pk_sneg (by omega) h1
    have h3 : mm_min (nI M - nI c) (nI (sp_free S b)) = nI M - nI c := by
      unfold mm_min
      rw [if_neg (Int32.not_lt.mpr (Int32.le_of_lt (Int32.lt_of_lt_of_le h2 (nI_pos' (by omega)))))]
    rw [h3, po_max0 h2, show max c (min (c + sp_free S b) M) - c = 0 by omega]
    rfl
  · rw [pk_sub h1, po_minN (by omega) (by omega), show (0 : Int32) = nI 0 from rfl, po_maxN (by decide) (by omega)]
    exact congrArg nI (by omega)
theorem pc_days_L (H : sc_S S 21 h) (ok : sp_ok S) {l : List Nat} {e : Nat → Nat} (hl : sc_ord l e h) (hm : ∀ x, x ∈ l → x < sp_nb S) (h20 : l.length ≤ 20) (hd0 : 0 < d) (hd : d ≤ 999) : ∀ (t : List Nat) (n i c : Nat), l.drop i = t → i ≤ l.length → t.length < n → c + 999 * t.length ≤ 19980 →
    gX7_daysMet_L16 21 (nI d) h n (nI c) (nI i) = some (nI (min 365 (sp_cum d (sp_free S) (sp_D S) t c / d)), h) := by
  intro t
  induction t with
  | nil =>
    intro n i c hdr hi hn hc
    obtain ⟨n, rfl⟩ : ∃ k, n = k + 1 := ⟨n - 1, by omega⟩
    have h0 := sp_drop0 hdr
    have hq : c / d ≤ c := Nat.div_le_self c d
    rw [gX7_daysMet_L16, hl.1, if_neg (nI_nlt h0 (by omega)), if_pos (po_0lt hd0 (by omega)), if_neg (nI_ne0 hd0 (by omega)), pk_div (by simp at hc; omega) hd0 (by omega), show (365 : Int32) = nI 365 from rfl, po_minN (by decide) (by simp at hc; omega)]
    rfl
  | cons b t ih =>
    intro n i c hdr hi hn hc
    rw [List.length_cons] at hn hc
    obtain ⟨n, rfl⟩ : ∃ k, n = k + 1 := ⟨n - 1, by omega⟩
    obtain ⟨h1, h2, h3⟩ := sp_drop hdr
    have hb := hm b (h2 ▸ sp_at_mem h1)
    have hf := sp_free_le ok hb
    have hle := sp_c1_le (d := d) (f := sp_free S) (D := sp_D S) c b
    have hge := sp_c1_ge (d := d) (f := sp_free S) (D := sp_D S) c b
    rw [gX7_daysMet_L16, hl.1, if_pos (nI_lt h1 (by omega)), po_g348 (by omega), (hl.2 i h1).1, h2, Option.bind_some, pc_taken H ok hb hd (by omega), Option.bind_some, nI_add, Option.bind_some, nI_1, Option.bind_some, show c + (sp_c1 d (sp_free S) (sp_D S) c b - c) = sp_c1 d (sp_free S) (sp_D S) c b by omega]
    exact ih n (i + 1) (sp_c1 d (sp_free S) (sp_D S) c b) h3 (by omega) (by omega) (by omega)
/-- the issue order is that of all batches, but for those that give nothing -/
theorem sp_ord_all (S : sp_S) (p : Nat) : sp_ord S p (sp_dy S) = (sp_all S p).filter (fun b => decide (sp_dy S ≤ sp_b S b 2 ∧ 0 < sp_free S b)) := by
  unfold sp_ord sp_all
  rw [← sp_ordk_sub]
  refine sp_ordk_eq (fun b _ => ?_) (fun _ _ => rfl)
  unfold sp_el
  rw [← Bool.decide_and]
theorem sp_tot_ord (S : sp_S) (p d : Nat) : sp_cum d (sp_free S) (sp_D S) (sp_ord S p (sp_dy S)) 0 = sp_tot S p d := by
  rw [sp_ord_all]
  unfold sp_tot
  refine sp_cum_fil (fun z _ hz => ?_)
  have := of_decide_eq_false hz
  unfold sp_D
  omega
theorem pc_days (H : ra_c A h) (ok : sa_ok A) (hp : p < sp_np (sa_C A)) (hd0 : 1 ≤ d) (hd : d ≤ 999) : ∃ h', gX7_daysMet 21 (nI p) (nI d) h = some (nI (min 365 (sp_tot (sa_S A) p d / d)), h') ∧ po_fr po_od h h' := by
  have h8 := ok.1.1.1
  have hdy := ok.1.2.1.1
  obtain ⟨h1, e1, e2, e3⟩ := pc_issueOrder po_k21 H.1.2 ok.1.2 (p := p) (d := sp_dy (sa_S A)) (by omega) (by omega)
  have H1 := ra_c_fr H e3 (fun q hq => po_od_no (Or.inl hq))
  have hl : (sp_ord (sa_S A) p (sp_dy (sa_S A))).length ≤ 20 := Nat.le_trans sp_ordk_len ok.1.2.1.2.1
  refine ⟨h1, ?_, e3⟩
  unfold gX7_daysMet
  rw [H.1.2.1.1, e1, Option.bind_some, show (0 : Int32) = nI 0 from rfl, pc_days_L H1.1.2 ok.1.2 e2 (fun x hx => (sp_ordk_mem.mp hx).1) hl hd0 hd (sp_ord (sa_S A) p (sp_dy (sa_S A))) mm_F 0 0 rfl (Nat.zero_le _) (Nat.lt_of_le_of_lt hl (by decide)) (by omega), sp_tot_ord]
/-! waste -/
def sp_ws (d : Nat) (f D u : Nat → Nat) (n : Nat) : List Nat → Nat → Nat
  | [], _ => 0
  | b :: t, c => (if D b < n then u b - (sp_c1 d f D c b - c) else 0) + sp_ws d f D u n t (sp_c1 d f D c b)
theorem sp_lsum_eq {g g' : Nat → Nat} : ∀ {l : List Nat}, (∀ z, z ∈ l → g z = g' z) → sp_lsum g l = sp_lsum g' l
  | [], _ => rfl
  | b :: t, h => by
    show g b + sp_lsum g t = g' b + sp_lsum g' t
    rw [h b List.mem_cons_self, sp_lsum_eq (fun z hz => h z (List.mem_cons_of_mem _ hz))]
theorem sp_ws_lsum : ∀ {l : List Nat} {c : Nat}, sp_srt (fun _ => 0) l → sp_ws d f D u n l c = sp_lsum (fun b => if D b < n then u b - sp_slI d f D l c b else 0) l
  | [], _, _ => rfl
  | b :: t, c, h => by
    show (if D b < n then u b - (sp_c1 d f D c b - c) else 0) + sp_ws d f D u n t (sp_c1 d f D c b) = (if D b < n then u b - sp_slI d f D (b :: t) c b else 0) + sp_lsum (fun z => if D z < n then u z - sp_slI d f D (b :: t) c z else 0) t
    rw [show sp_slI d f D (b :: t) c b = sp_c1 d f D c b - c from if_pos rfl, sp_ws_lsum h.2]
    refine congrArg _ (sp_lsum_eq (fun z hz => ?_))
    rw [show sp_slI d f D (b :: t) c z = sp_slI d f D t (sp_c1 d f D c b) z from if_neg (h.1 z hz).2]
theorem sp_ins_all (S : sp_S) (p : Nat) : sp_ins0 S p = (sp_all S p).filter (fun b => decide (0 < sp_b S b 1)) := by
  unfold sp_ins0 sp_all
  rw [← sp_ordk_sub]
  refine sp_ordk_eq (fun b _ => ?_) (fun _ _ => rfl)
  unfold sp_is
  rw [← Bool.decide_and]
theorem sp_free_u (S : sp_S) (b : Nat) : sp_free S b ≤ sp_b S b 1 := Nat.sub_le _ _
theorem sp_ws_was (S : sp_S) (p d n : Nat) : sp_ws d (sp_free S) (sp_D S) (fun b => sp_b S b 1) n (sp_ins0 S p) 0 = sp_was S p d n := by
  rw [sp_ws_lsum (l := sp_ins0 S p) (sp_lex_srt (e := sp_e S) sp_ordk_lex), sp_ins_all]
  have hz : ∀ z, z ∈ sp_all S p → (fun b => decide (0 < sp_b S b 1)) z = false → sp_free S z = 0 ∨ sp_D S z = 0 := fun z _ h => by
    have := of_decide_eq_false h
    have := sp_free_u S z
    exact Or.inl (by omega)
  have h1 : sp_lsum (fun b => if sp_D S b < n then sp_b S b 1 - sp_slI d (sp_free S) (sp_D S) ((sp_all S p).filter (fun b => decide (0 < sp_b S b 1))) 0 b else 0) ((sp_all S p).filter (fun b => decide (0 < sp_b S b 1))) = sp_lsum (fun b => if sp_D S b < n then sp_b S b 1 - sp_soldI S p d b else 0) ((sp_all S p).filter (fun b => decide (0 < sp_b S b 1))) :=
    sp_lsum_eq (fun z hz2 => by
      have hq := (List.mem_filter.mp hz2).2
      rw [sp_slI_fil (p := fun b => decide (0 < sp_b S b 1)) hq hz]
      rfl)
  rw [h1, sp_lsum_fil (fun z _ h => by
    have := of_decide_eq_false h
    show (if sp_D S z < n then sp_b S z 1 - sp_soldI S p d z else 0) = 0
    rw [show sp_b S z 1 = 0 by omega, Nat.zero_sub, ite_self])]
  unfold sp_all sp_was
  rw [sp_lsum_ordk]
  refine sp_sum_eq (fun b _ => ?_)
  by_cases hp : sp_b S b 0 = p
  · rw [if_pos (decide_eq_true hp)]
    by_cases hD : sp_D S b < n
    · rw [if_pos hD, if_pos ⟨hp, hD⟩]
    · rw [if_neg hD, if_neg (fun z => hD z.2)]
  · rw [if_neg (by rw [decide_eq_false hp]; decide), if_neg (fun z => hp z.1)]
theorem pc_waste_L (H : sc_S S 21 h) (ok : sp_ok S) {l : List Nat} {e : Nat → Nat} {N : Nat} (hl : sc_ord l e h) (hm : ∀ x, x ∈ l → x < sp_nb S) (h20 : l.length ≤ 20) (hd : d ≤ 999) (hN : N ≤ 365) : ∀ (t : List Nat) (n i c w : Nat), l.drop i = t → i ≤ l.length → t.length < n → c + 999 * t.length ≤ 19980 →
    gX7_wastedUnits_L15 21 (nI d) (nI N) h n (nI c) (nI w) (nI i) = some (nI (w + sp_ws d (sp_free S) (sp_D S) (fun b => sp_b S b 1) N t c), h) := by
  intro t
  induction t with
  | nil =>
    intro n i c w hdr hi hn hc
    obtain ⟨n, rfl⟩ : ∃ k, n = k + 1 := ⟨n - 1, by omega⟩
    have h0 := sp_drop0 hdr
    rw [gX7_wastedUnits_L15, hl.1, if_neg (nI_nlt h0 (by omega))]
    rfl
  | cons b t ih =>
    intro n i c w hdr hi hn hc
    rw [List.length_cons] at hn hc
    obtain ⟨n, rfl⟩ : ∃ k, n = k + 1 := ⟨n - 1, by omega⟩
    obtain ⟨h1, h2, h3⟩ := sp_drop hdr
    have hb := hm b (h2 ▸ sp_at_mem h1)
    have hf := sp_free_le ok hb
    have hfu := sp_free_u S b
    have hle := sp_c1_le (d := d) (f := sp_free S) (D := sp_D S) c b
    have hge := sp_c1_ge (d := d) (f := sp_free S) (D := sp_D S) c b
    have hDl := sp_D_le ok hb
    rw [gX7_wastedUnits_L15, hl.1, if_pos (nI_lt h1 (by omega)), po_g348 (by omega), (hl.2 i h1).1, h2, Option.bind_some, pc_taken H ok hb hd (by omega), Option.bind_some, nI_add, Option.bind_some, pc_D H ok hb, Option.bind_some, show c + (sp_c1 d (sp_free S) (sp_D S) c b - c) = sp_c1 d (sp_free S) (sp_D S) c b by omega]
    refine po_jn (fun k1 g1 => ?_)
    have hk : ∀ y, k1 (nI y) = some (nI (y + sp_ws d (sp_free S) (sp_D S) (fun b => sp_b S b 1) N t (sp_c1 d (sp_free S) (sp_D S) c b)), h) := fun y => by
      rw [g1]
      dsimp only
      rw [nI_1, Option.bind_some]
      exact ih n (i + 1) (sp_c1 d (sp_free S) (sp_D S) c b) y h3 (by omega) (by omega) (by omega)
    show _ = some (nI (w + ((if sp_D S b < N then sp_b S b 1 - (sp_c1 d (sp_free S) (sp_D S) c b - c) else 0) + sp_ws d (sp_free S) (sp_D S) (fun b => sp_b S b 1) N t (sp_c1 d (sp_free S) (sp_D S) c b))), h)
    by_cases hD : sp_D S b < N
    · rw [if_pos (nI_lt hD (by omega)), show gX4_get (21 + 3) (nI b) h = some (nI (sp_b S b 1)) from pc_g3 po_k21 H ok hb, Option.bind_some, pk_sub (by omega), nI_add, Option.bind_some, hk, if_pos hD, Nat.add_assoc]
    · rw [if_neg (nI_nlt (by omega) (by omega)), hk, if_neg hD, Nat.zero_add]
theorem pc_waste {N : Nat} (H : ra_c A h) (ok : sa_ok A) (hp : p < sp_np (sa_C A)) (hd : d ≤ 999) (hN : N ≤ 365) : ∃ h', gX7_wastedUnits 21 (nI p) (nI d) (nI N) h = some (nI (sp_was (sa_S A) p d N), h') ∧ po_fr po_od h h' := by
  have h8 := ok.1.1.1
  obtain ⟨h1, e1, e2, e3⟩ := pc_inStock po_k21 H.1.2 ok.1.2 (p := p) (by omega)
  have H1 := ra_c_fr H e3 (fun q hq => po_od_no (Or.inl hq))
  have hl : (sp_ins0 (sa_S A) p).length ≤ 20 := Nat.le_trans sp_ordk_len ok.1.2.1.2.1
  refine ⟨h1, ?_, e3⟩
  unfold gX7_wastedUnits
  rw [e1, Option.bind_some, show (0 : Int32) = nI 0 from rfl, pc_waste_L H1.1.2 ok.1.2 e2 (fun x hx => (sp_ordk_mem.mp hx).1) hl hd hN (sp_ins0 (sa_S A) p) mm_F 0 0 0 rfl (Nat.zero_le _) (Nat.lt_of_le_of_lt hl (by decide)) (by omega), Nat.zero_add, sp_ws_was]
/-! the least demand -/
def sp_ldo (D u w : Nat → Nat) : List Nat → Nat → Nat → Option Nat
  | [], l, _ => some l
  | b :: t, l, U => if D b < 365 then (if 0 < D b then (if 0 < w b then none else sp_ldo D u w t (max l ((U + u b + D b - 1) / D b)) (U + u b)) else none) else some l
theorem sp_ldo_ge {w : Nat → Nat} : ∀ {t : List Nat} {l U r : Nat}, sp_ldo D u w t l U = some r → l ≤ r
  | [], l, U, r, h => by
    have := Option.some.inj h
    omega
  | b :: t, l, U, r, h => by
    have h' : (if D b < 365 then (if 0 < D b then (if 0 < w b then none else sp_ldo D u w t (max l ((U + u b + D b - 1) / D b)) (U + u b)) else none) else some l) = some r := h
    by_cases h1 : D b < 365
    · rw [if_pos h1] at h'
      by_cases h2 : 0 < D b
      · rw [if_pos h2] at h'
        by_cases h3 : 0 < w b
        · rw [if_pos h3] at h'
          cases h'
        · rw [if_neg h3] at h'
          have := sp_ldo_ge h'
          omega
      · rw [if_neg h2] at h'
        cases h'
    · rw [if_neg h1] at h'
      have := Option.some.inj h'
      omega
theorem sp_ws_0 : ∀ {l : List Nat} {c : Nat}, (∀ z, z ∈ l → ¬ D z < n) → sp_ws d f D u n l c = 0
  | [], _, _ => rfl
  | b :: t, c, h => by
    show (if D b < n then u b - (sp_c1 d f D c b - c) else 0) + sp_ws d f D u n t (sp_c1 d f D c b) = 0
    rw [if_neg (h b List.mem_cons_self), sp_ws_0 (fun z hz => h z (List.mem_cons_of_mem _ hz))]
/-- D grows along the list -/
def sp_grow (D : Nat → Nat) : List Nat → Prop
  | [] => True
  | b :: t => (∀ z, z ∈ t → D b ≤ D z) ∧ sp_grow D t
theorem sp_ldo_iff {w : Nat → Nat} {m : Nat} : ∀ {t : List Nat} {l U : Nat}, sp_grow D t → (∀ z, z ∈ t → 0 < u z ∧ f z = u z - w z ∧ w z ≤ u z) → l ≤ m → (sp_ws m f D u 365 t U = 0 ↔ ∃ r, sp_ldo D u w t l U = some r ∧ r ≤ m)
  | [], l, U, _, _, hl => ⟨fun _ => ⟨l, rfl, hl⟩, fun _ => rfl⟩
  | b :: t, l, U, hg, hu, hl => by
    obtain ⟨u1, u2, u3⟩ := hu b List.mem_cons_self
    show (if D b < 365 then u b - (sp_c1 m f D U b - U) else 0) + sp_ws m f D u 365 t (sp_c1 m f D U b) = 0 ↔ ∃ r, (if D b < 365 then (if 0 < D b then (if 0 < w b then none else sp_ldo D u w t (max l ((U + u b + D b - 1) / D b)) (U + u b)) else none) else some l) = some r ∧ r ≤ m
    by_cases h1 : D b < 365
    · rw [if_pos h1, if_pos h1]
      have hc : sp_c1 m f D U b = max U (min (U + f b) (m * D b)) := rfl
      by_cases h2 : 0 < D b
      · rw [if_pos h2]
        by_cases h3 : 0 < w b
        · rw [if_pos h3]
          refine ⟨fun z => ?_, fun ⟨r, e, _⟩ => by cases e⟩
          exfalso
          rw [hc] at z
          omega
        · rw [if_neg h3]
          have hw0 : f b = u b := by omega
          have hdiv : (U + u b + D b - 1) / D b ≤ m ↔ U + u b ≤ m * D b := by
            rw [← Nat.lt_succ_iff, Nat.div_lt_iff_lt_mul h2, Nat.succ_mul]
            omega
          by_cases h4 : U + u b ≤ m * D b
          · have hc2 : sp_c1 m f D U b = U + u b := by
              rw [hc, hw0]
              omega
            rw [hc2, show u b - (U + u b - U) = 0 by omega, Nat.zero_add]
            exact sp_ldo_iff hg.2 (fun z hz => hu z (List.mem_cons_of_mem _ hz)) (Nat.max_le.mpr ⟨hl, hdiv.mpr h4⟩)
          · refine ⟨fun z => ?_, fun ⟨r, e, hr⟩ => ?_⟩
            · exfalso
              rw [hc, hw0] at z
              omega
            · exfalso
              have h5 := sp_ldo_ge e
              have h6 : (U + u b + D b - 1) / D b ≤ m := by omega
              exact h4 (hdiv.mp h6)
      · rw [if_neg h2]
        refine ⟨fun z => ?_, fun ⟨r, e, _⟩ => by cases e⟩
        exfalso
        have hD : D b = 0 := by omega
        rw [hc, hD, Nat.mul_zero] at z
        omega
    · rw [if_neg h1, if_neg h1, Nat.zero_add, sp_ws_0 (fun z hz => by have := hg.1 z hz; omega)]
      exact ⟨fun _ => ⟨l, rfl, hl⟩, fun _ => rfl⟩
theorem sp_grow_D (S : sp_S) : ∀ {l : List Nat}, sp_lex (sp_e S) l → sp_grow (sp_D S) l
  | [], _ => trivial
  | b :: t, h => ⟨fun z hz => by
      have := of_decide_eq_true (h.1 z hz)
      unfold sp_e at this
      unfold sp_D
      omega, sp_grow_D S h.2⟩
def sp_least (S : sp_S) (p : Nat) : Option Nat := sp_ldo (sp_D S) (fun b => sp_b S b 1) (sp_held S) (sp_ins0 S p) 0 0
theorem sp_least_iff (ok : sp_ok S) (p m : Nat) : sp_was S p m 365 = 0 ↔ ∃ l, sp_least S p = some l ∧ l ≤ m := by
  rw [← sp_ws_was]
  refine sp_ldo_iff (sp_grow_D S sp_ordk_lex) (fun z hz => ?_) (Nat.zero_le _)
  obtain ⟨h1, h2⟩ := sp_ordk_mem.mp hz
  exact ⟨(of_decide_eq_true h2).2, rfl, sp_held_le ok h1⟩
theorem pc_least_L (H : sc_S S 21 h) (ok : sp_ok S) {l : List Nat} {e : Nat → Nat} (hl : sc_ord l e h) (hm : ∀ x, x ∈ l → x < sp_nb S) (h20 : l.length ≤ 20) : ∀ (t : List Nat) (n i c U : Nat), l.drop i = t → i ≤ l.length → t.length < n → U + 999 * t.length ≤ 19980 → c ≤ 30000 →
    gX7_leastDemandWithoutWaste_L14 21 h n (nI c) (nI U) (nI i) = some (sp_lv (sp_ldo (sp_D S) (fun b => sp_b S b 1) (sp_held S) t c U), h) := by
  have fin : ∀ c : Nat, c ≤ 30000 → (if 999 < nI c then some (-1, h) else some (nI c, h)) = some ((if c ≤ 999 then nI c else -1), h) := fun c hc => by
    by_cases h1 : c ≤ 999
    · rw [if_neg (show ¬ 999 < nI c from nI_nlt (a := 999) h1 (by decide)), if_pos h1]
    · rw [if_pos (show 999 < nI c from nI_lt (a := 999) (by omega) (by omega)), if_neg h1]
  intro t
  induction t with
  | nil =>
    intro n i c U hdr hi hn hU hc
    obtain ⟨n, rfl⟩ : ∃ k, n = k + 1 := ⟨n - 1, by omega⟩
    have h0 := sp_drop0 hdr
    rw [gX7_leastDemandWithoutWaste_L14]
    refine po_jn (fun k1 g1 => ?_)
    rw [hl.1, if_neg (nI_nlt h0 (by omega)), g1]
    exact fin c hc
  | cons b t ih =>
    intro n i c U hdr hi hn hU hc
    rw [List.length_cons] at hn hU
    obtain ⟨n, rfl⟩ : ∃ k, n = k + 1 := ⟨n - 1, by omega⟩
    obtain ⟨h1, h2, h3⟩ := sp_drop hdr
    have hb := hm b (h2 ▸ sp_at_mem h1)
    have hu := (ok.2.1 b hb).2.1
    have hw := sp_held_le ok hb
    have hDl := sp_D_le ok hb
    rw [gX7_leastDemandWithoutWaste_L14]
    refine po_jn (fun k1 g1 => ?_)
    rw [hl.1, if_pos (nI_lt h1 (by omega)), po_g348 (by omega), (hl.2 i h1).1, h2, Option.bind_some, pc_D H ok hb, Option.bind_some]
    show _ = some (sp_lv ((if sp_D S b < 365 then (if 0 < sp_D S b then (if 0 < sp_held S b then none else sp_ldo (sp_D S) (fun b => sp_b S b 1) (sp_held S) t (max c ((U + sp_b S b 1 + sp_D S b - 1) / sp_D S b)) (U + sp_b S b 1)) else none) else some c)), h)
    by_cases hD : sp_D S b < 365
    · rw [if_pos (show nI (sp_D S b) < 365 from nI_lt hD (by decide)), if_pos hD]
      by_cases hD0 : 0 < sp_D S b
      · rw [if_pos (po_0lt hD0 (by omega)), if_pos hD0, show gX4_get (21 + 5) (nI b) h = some (nI (sp_held S b)) from pc_g5 po_k21 H ok hb, Option.bind_some]
        by_cases hw0 : 0 < sp_held S b
        · rw [if_pos (po_0lt hw0 (by omega)), if_pos hw0]
          rfl
        · have hdv : (U + sp_b S b 1 + sp_D S b - 1) / sp_D S b ≤ U + sp_b S b 1 + sp_D S b - 1 := Nat.div_le_self _ _
          have e1 : nI (U + sp_b S b 1) + nI (sp_D S b) - 1 = nI (U + sp_b S b 1 + sp_D S b - 1) := by
            rw [nI_add, show U + sp_b S b 1 + sp_D S b = (U + sp_b S b 1 + sp_D S b - 1) + 1 by omega, nI_pred]
            rfl
          rw [if_neg (po_n0lt hw0), if_neg hw0, show gX4_get (21 + 3) (nI b) h = some (nI (sp_b S b 1)) from pc_g3 po_k21 H ok hb, Option.bind_some, nI_add, Option.bind_some, if_neg (nI_ne0 hD0 (by omega)), e1, pk_div (by omega) hD0 (by omega), Option.bind_some, po_maxN (by omega) (by omega), Option.bind_some, nI_1, Option.bind_some]
          exact ih n (i + 1) _ _ h3 (by omega) (by omega) (by omega) (by omega)
      · rw [if_neg (po_n0lt hD0), if_neg hD0]
        rfl
    · have h365 : ¬ nI (sp_D S b) < nI 365 := nI_nlt (Nat.le_of_not_lt hD) (Nat.lt_of_le_of_lt hDl (by decide))
      rw [show (365 : Int32) = nI 365 from rfl, if_neg h365, if_neg hD, g1]
      exact fin c hc
theorem pc_least (H : ra_c A h) (ok : sa_ok A) (hp : p < sp_np (sa_C A)) : ∃ h', gX7_leastDemandWithoutWaste 21 (nI p) h = some (sp_lv (sp_least (sa_S A) p), h') ∧ po_fr po_od h h' := by
  have h8 := ok.1.1.1
  obtain ⟨h1, e1, e2, e3⟩ := pc_inStock po_k21 H.1.2 ok.1.2 (p := p) (by omega)
  have H1 := ra_c_fr H e3 (fun q hq => po_od_no (Or.inl hq))
  have hl : (sp_ins0 (sa_S A) p).length ≤ 20 := Nat.le_trans sp_ordk_len ok.1.2.1.2.1
  refine ⟨h1, ?_, e3⟩
  unfold gX7_leastDemandWithoutWaste
  rw [e1, Option.bind_some, show (0 : Int32) = nI 0 from rfl, pc_least_L H1.1.2 ok.1.2 e2 (fun x hx => (sp_ordk_mem.mp hx).1) hl (sp_ins0 (sa_S A) p) mm_F 0 0 0 rfl (Nat.zero_le _) (Nat.lt_of_le_of_lt hl (by decide)) (by omega) (by omega)]
  rfl
end PQO

section POX
/-! the law takes and gives units one by one: as the lists say -/
variable {A : sp_A} {O O1 : sp_S} {o : Nat} {h : mm_H}
theorem so_ord1 {p d b : Nat} {t : List Nat} (hl : sp_ord O p d = b :: t) (hn : sp_nb O1 = sp_nb O) (h0 : ∀ i, sp_b O1 i 0 = sp_b O i 0) (h2 : ∀ i, sp_b O1 i 2 = sp_b O i 2) (hf : ∀ i, sp_free O1 i = sp_free O i - (if i = b then 1 else 0)) : sp_ord O1 p d = if 1 < sp_free O b then b :: t else t := by
  have e1 : sp_ord O1 p d = sp_ordk (sp_e O) (sp_el O1 p d) (sp_nb O) := by
    show sp_ordk (sp_e O1) (sp_el O1 p d) (sp_nb O1) = _
    rw [hn]
    exact sp_ordk_eq (fun i _ => rfl) (fun i _ => h2 i)
  rw [e1]
  by_cases h1 : 1 < sp_free O b
  · rw [if_pos h1, ← hl]
    refine sp_ordk_eq (fun i _ => ?_) (fun i _ => rfl)
    unfold sp_el
    rw [h0, h2, hf]
    by_cases hi : i = b
    · rw [if_pos hi, hi]
      exact decide_eq_decide.mpr ⟨fun z => ⟨z.1, z.2.1, by omega⟩, fun z => ⟨z.1, z.2.1, by omega⟩⟩
    · rw [if_neg hi, Nat.sub_zero]
  · rw [if_neg h1]
    exact sp_ordk_tail hl (fun i _ => sp_el_free (h0 i) (h2 i) (fun hi => by rw [hf, if_neg hi, Nat.sub_zero]) (by rw [hf, if_pos rfl]; omega))
theorem sp_tk_one {f f1 : Nat → Nat} {b u x : Nat} {t : List Nat} (hb : 1 ≤ f b) (hbt : b ∉ t) (hf : ∀ i, f1 i = f i - (if i = b then 1 else 0)) : (if x = b then 1 else 0) + sp_tk f1 (if 1 < f b then b :: t else t) u x = sp_tk f (b :: t) (u + 1) x := by
  have ht : ∀ z, z ∈ t → f1 z = f z := fun z hz => by rw [hf, if_neg (show ¬ z = b from fun e => hbt (e ▸ hz)), Nat.sub_zero]
  have hb1 : f1 b = f b - 1 := by rw [hf, if_pos rfl]
  rw [show sp_tk f (b :: t) (u + 1) x = if x = b then min (u + 1) (f b) else sp_tk f t (u + 1 - min (u + 1) (f b)) x from rfl]
  by_cases h1 : 1 < f b
  · rw [if_pos h1, show sp_tk f1 (b :: t) u x = if x = b then min u (f1 b) else sp_tk f1 t (u - min u (f1 b)) x from rfl, hb1]
    by_cases hx : x = b
    · rw [if_pos hx, if_pos hx, if_pos hx]
      omega
    · rw [if_neg hx, if_neg hx, if_neg hx, sp_tk_eq ht, Nat.zero_add, show u - min u (f b - 1) = u + 1 - min (u + 1) (f b) by omega]
  · rw [if_neg h1]
    by_cases hx : x = b
    · rw [if_pos hx, if_pos hx, hx, sp_tk_no hbt]
      omega
    · rw [if_neg hx, if_neg hx, sp_tk_eq ht, Nat.zero_add, show u + 1 - min (u + 1) (f b) = u by omega]
theorem sp_cost_one {f f1 c c1 : Nat → Nat} {b u : Nat} {t : List Nat} (hb : 1 ≤ f b) (hbt : b ∉ t) (hc : ∀ i, c1 i = c i) (hf : ∀ i, f1 i = f i - (if i = b then 1 else 0)) : c b + sp_cost f1 c1 (if 1 < f b then b :: t else t) u = sp_cost f c (b :: t) (u + 1) := by
  have ht : ∀ z, z ∈ t → f1 z = f z ∧ c1 z = c z := fun z hz => ⟨by rw [hf, if_neg (show ¬ z = b from fun e => hbt (e ▸ hz)), Nat.sub_zero], hc z⟩
  have hb1 : f1 b = f b - 1 := by rw [hf, if_pos rfl]
  rw [show sp_cost f c (b :: t) (u + 1) = min (u + 1) (f b) * c b + sp_cost f c t (u + 1 - min (u + 1) (f b)) from rfl]
  by_cases h1 : 1 < f b
  · rw [if_pos h1, show sp_cost f1 c1 (b :: t) u = min u (f1 b) * c1 b + sp_cost f1 c1 t (u - min u (f1 b)) from rfl, hb1, hc, sp_cost_eq ht, show u - min u (f b - 1) = u + 1 - min (u + 1) (f b) by omega, show min (u + 1) (f b) = min u (f b - 1) + 1 by omega, Nat.add_mul, Nat.one_mul]
    omega
  · rw [if_neg h1, sp_cost_eq ht, show min (u + 1) (f b) = 1 by omega, Nat.one_mul, Nat.add_sub_cancel]
theorem sp_lsum_one {f f1 : Nat → Nat} {b : Nat} {t : List Nat} (hb : 1 ≤ f b) (hbt : b ∉ t) (hf : ∀ i, f1 i = f i - (if i = b then 1 else 0)) : 1 + sp_lsum f1 (if 1 < f b then b :: t else t) = sp_lsum f (b :: t) := by
  have hb1 : f1 b = f b - 1 := by rw [hf, if_pos rfl]
  have ht : ∀ {l : List Nat}, (∀ z, z ∈ l → f1 z = f z) → sp_lsum f1 l = sp_lsum f l := by
    intro l
    induction l with
    | nil => intro _; rfl
    | cons y s ih =>
      intro h9
      rw [sp_lsum, sp_lsum, h9 y List.mem_cons_self, ih (fun z hz => h9 z (List.mem_cons_of_mem _ hz))]
  have ht' := ht (l := t) (fun z hz => by rw [hf, if_neg (show ¬ z = b from fun e => hbt (e ▸ hz)), Nat.sub_zero])
  rw [show sp_lsum f (b :: t) = f b + sp_lsum f t from rfl]
  by_cases h1 : 1 < f b
  · rw [if_pos h1, show sp_lsum f1 (b :: t) = f1 b + sp_lsum f1 t from rfl, ht', hb1]
    omega
  · rw [if_neg h1, ht']
    omega
/-- the head of the order -/
theorem so_head {p d b : Nat} {t : List Nat} (hl : sp_ord O p d = b :: t) : b < sp_nb O ∧ sp_b O b 0 = p ∧ 1 ≤ sp_free O b ∧ b ∉ t := by
  have h1 := (sp_ordk_mem (e := sp_e O) (c := sp_el O p d) (n := sp_nb O) (x := b)).mp (by rw [show sp_ordk (sp_e O) (sp_el O p d) (sp_nb O) = b :: t from hl]; exact List.mem_cons_self)
  have h2 := of_decide_eq_true h1.2
  have h3 : sp_srt (sp_e O) (sp_ordk (sp_e O) (sp_el O p d) (sp_nb O)) := sp_ordk_srt
  rw [show sp_ordk (sp_e O) (sp_el O p d) (sp_nb O) = b :: t from hl] at h3
  exact ⟨h1.1, h2.1, h2.2.2, fun z => (h3.1 b z).2 rfl⟩
def po_ow (q : Nat) : Bool := decide (352 ≤ q)
theorem po_ow_no {q : Nat} (hq : q < 352) : po_ow q = false := decide_eq_false (by omega)
theorem ra_c_ow {h' : mm_H} (H : ra_c A h) (hf : po_fr po_ow h h') : ra_c A h' := ra_c_fr H hf (fun q hq => po_ow_no (by omega))
def so_d (b : Nat) : Nat → Nat := fun x => if x = b then 1 else 0
theorem so_take1 (K : so_S O o h) (ho : 352 ≤ o) {p b : Nat} (hb : b < sp_nb O) (hf : 1 ≤ sp_b O b 1) (okO : sp_ok O) : so_S (sp_take O p (so_d b) 1) o (ms_I h (o + 1) b (mh_I h (o + 1) b - 1)) := by
  obtain ⟨k1, k2, k3, k4⟩ := K
  have hm := okO.1.2.1
  refine ⟨(po_I3 (by omega)).trans k1, (po_I3 (by omega)).trans k2, fun x hx => ?_, fun r hr x hx => (po_I3 (by omega)).trans (k4 r hr x hx)⟩
  show _ = nI (if 1 = 1 then sp_b O x 1 - (if x = b then 1 else 0) else sp_b O x 1)
  rw [if_pos rfl]
  by_cases hxb : x = b
  · subst hxb
    rw [po_I1, k3 x hx, if_pos rfl, show (1 : Int32) = nI 1 from rfl, pk_sub hf]
  · rw [po_I4 hxb, k3 x hx, if_neg hxb, Nat.sub_zero]
theorem so_C_take {S : sp_S} (C : so_C O S) (p q : Nat) (t : Nat → Nat) : so_C (sp_take O p t q) S := ⟨C.1, fun b w hb hw => (if_neg hw).trans (C.2.1 b w hb hw), C.2.2⟩
theorem so_tkb (O : sp_S) (p q : Nat) (t : Nat → Nat) (i w : Nat) (hw : w ≠ 1) : sp_b (sp_take O p t q) i w = sp_b O i w := if_neg hw
theorem so_issue_L (ok : sa_ok A) (ho : 352 ≤ o) {p U : Nat} (hp : p < 2 ^ 31) (hU : U < 2 ^ 31) : ∀ u n O k cost h, ra_c A h → so_C O (sa_S A) → sp_ok O → so_S O o h → u ≤ sp_av O p (sp_dy O) → k + u = U → u < n →
    ∃ h', gX11_issue_L5 o (nI p) (nI U) n (nI cost) (nI k) h = some (.inl (nI (cost + sp_cost (sp_free O) (fun b => sp_b O b 3) (sp_ord O p (sp_dy O)) u)), h') ∧ so_S (sp_take O p (sp_tk (sp_free O) (sp_ord O p (sp_dy O)) u) u) o h' ∧ po_fr po_ow h h' := by
  intro u
  induction u with
  | zero =>
    intro n O k cost h H C okO K hu hk hn
    obtain ⟨m, rfl⟩ : ∃ m, n = m + 1 := ⟨n - 1, by omega⟩
    refine ⟨h, ?_, ?_, po_fr_refl h⟩
    · rw [gX11_issue_L5, if_neg (nI_nlt (by omega) (by omega)), sp_cost_0, Nat.add_zero]
    · obtain ⟨k1, k2, k3, k4⟩ := K
      refine ⟨k1, k2, fun x hx => ?_, k4⟩
      show _ = nI (if 1 = 1 then sp_b O x 1 - sp_tk (sp_free O) (sp_ord O p (sp_dy O)) 0 x else sp_b O x 1)
      rw [if_pos rfl, sp_tk_0, Nat.sub_zero]
      exact k3 x hx
  | succ u ih =>
    intro n O k cost h H C okO K hu hk hn
    obtain ⟨m, rfl⟩ : ∃ m, n = m + 1 := ⟨n - 1, by omega⟩
    have hm := okO.1.2.1
    have hdy := okO.1.1
    rw [← sp_lsum_av] at hu
    cases hl : sp_ord O p (sp_dy O) with
    | nil =>
      rw [hl] at hu
      exact absurd hu (Nat.not_succ_le_zero u)
    | cons b t =>
      obtain ⟨b1, b2, b3, b4⟩ := so_head hl
      rw [hl] at hu
      have hb : b < sp_nb (sa_S A) := by rw [← C.1.1]; exact b1
      have hfu : sp_free O b ≤ sp_b O b 1 := Nat.sub_le _ _
      have hf1 : ∀ i, sp_free (sp_take O p (so_d b) 1) i = sp_free O i - (if i = b then 1 else 0) := fun i => sp_take_free O p (so_d b) 1 i
      have hn1 := so_ord1 (O1 := sp_take O p (so_d b) 1) hl rfl (fun i => so_tkb O p 1 (so_d b) i 0 (by decide)) (fun i => so_tkb O p 1 (so_d b) i 2 (by decide)) hf1
      have ok1 : sp_ok (sp_take O p (so_d b) 1) := sp_take_ok okO (fun x hx => by
        show (if x = b then 1 else 0) ≤ sp_free O x
        by_cases hxb : x = b
        · rw [if_pos hxb, hxb]
          exact b3
        · rw [if_neg hxb]
          exact Nat.zero_le _)
      have K1 := so_take1 (p := p) K ho b1 (by omega) okO
      have f1 : po_fr po_ow h (ms_I h (o + 1) b (mh_I h (o + 1) b - 1)) := po_fr_I (decide_eq_true (by omega))
      have H1 := ra_c_ow H f1
      have e3 : sp_b (sa_S A) b 3 = sp_b O b 3 := (C.2.1 b 3 b1 (by decide)).symm
      obtain ⟨h', g1, g2, g3⟩ := ih m (sp_take O p (so_d b) 1) (k + 1) (cost + sp_b O b 3) _ H1 (so_C_take C p 1 (so_d b)) ok1 K1 (by
        rw [← sp_lsum_av, show sp_dy (sp_take O p (so_d b) 1) = sp_dy O from rfl, hn1]
        have := sp_lsum_one (f := sp_free O) (f1 := sp_free (sp_take O p (so_d b) 1)) b3 b4 hf1
        omega) (by omega) (by omega)
      rw [show sp_dy (sp_take O p (so_d b) 1) = sp_dy O from rfl, hn1] at g1 g2
      refine ⟨h', ?_, ?_, po_fr_trans f1 g3⟩
      · have hd9 : gX11_next o (nI p) (nI (sp_dy (sa_S A))) h = some (.inl (nI b), h) := by
          rw [← C.1.2.2, so_next H ok C okO K hp (by omega), hl]
          rfl
        rw [gX11_issue_L5, if_pos (nI_lt (by omega) hU), cq_day H, Option.bind_some, hd9, Option.bind_some]
        dsimp only
        rw [if_pos (po_ibd (n := 20) (by omega) (by decide)), if_pos (po_ibd (n := 20) (by omega) (by decide)), Option.bind_some, nI_clamp (show b < 2 ^ 31 by omega), cq_unitCost H1 ok hb, Option.bind_some, e3]
        dsimp only
        rw [Option.bind_some, Option.bind_some, nI_add, nI_1, g1, Nat.add_assoc, sp_cost_one (c := fun b => sp_b O b 3) (c1 := fun i => sp_b (sp_take O p (so_d b) 1) i 3) b3 b4 (fun i => so_tkb O p 1 (so_d b) i 3 (by decide)) hf1]
      · rw [sp_take_take (t := so_d b) (t' := sp_tk (sp_free (sp_take O p (so_d b) 1)) (if 1 < sp_free O b then b :: t else t) u) (t'' := sp_tk (sp_free O) (b :: t) (u + 1)) (q'' := u + 1) (fun x => sp_tk_one (x := x) b3 b4 hf1) (by omega)] at g2
        exact g2
theorem so_issue (H : ra_c A h) (ok : sa_ok A) (ho : 352 ≤ o) (C : so_C O (sa_S A)) (okO : sp_ok O) (K : so_S O o h) {p u : Nat} (hp : p < 2 ^ 31) (hu : u ≤ sp_av O p (sp_dy O)) (hu9 : u < 2 ^ 10) : ∃ h', gX11_issue o (nI p) (nI u) h = some (.inl (nI (sp_icost O p u)), h') ∧ so_S (sp_issue O p u) o h' ∧ po_fr po_ow h h' := by
  obtain ⟨h', g1, g2, g3⟩ := so_issue_L ok ho hp (U := u) (by omega) u mm_F O 0 0 h H C okO K hu (by omega) (Nat.lt_of_lt_of_le hu9 (by decide))
  rw [Nat.zero_add] at g1
  exact ⟨h', g1, g2, g3⟩
/-! units given to a reservation -/
theorem so_give1 (K : so_S O o h) (ho : 352 ≤ o) {r b : Nat} (hr : r < sp_nr O) (hb : b < sp_nb O) : so_S (sp_give O r (so_d b)) o (ms_I h (o + 3 + r) b (mh_I h (o + 3 + r) b + 1)) := by
  obtain ⟨k1, k2, k3, k4⟩ := K
  refine ⟨(po_I3 (by omega)).trans k1, (po_I3 (by omega)).trans k2, fun x hx => (po_I3 (by omega)).trans (k3 x hx), fun r' hr' x hx => ?_⟩
  show _ = nI (if r' = r then sp_al O r' x + (if x = b then 1 else 0) else sp_al O r' x)
  by_cases hrr : r' = r
  · subst hrr
    rw [if_pos rfl]
    by_cases hxb : x = b
    · subst hxb
      rw [po_I1, k4 r' hr' x hx, if_pos rfl, nI_1]
    · rw [po_I4 hxb, k4 r' hr' x hx, if_neg hxb, Nat.add_zero]
  · rw [if_neg hrr, po_I3 (by omega)]
    exact k4 r' hr' x hx
theorem so_alloc_L (ok : sa_ok A) (ho : 352 ≤ o) {r p d U : Nat} (hp : p < 2 ^ 31) (hd : d < 2 ^ 31) (hU : U < 2 ^ 31) : ∀ u n O k h, ra_c A h → so_C O (sa_S A) → sp_ok O → so_S O o h → r < sp_nr O → sp_r O r 3 = 0 → u ≤ sp_r O r 1 - sp_alls O r → u ≤ sp_av O p d → k + u = U → u < n →
    ∃ h', gX11_allocate_L12 o (nI r) (nI p) (nI U) (nI d) n (nI k) (sp_hd (sp_ord O p d)) h = some (.inl (nI U), h') ∧ so_S (sp_give O r (sp_tk (sp_free O) (sp_ord O p d) u)) o h' ∧ po_fr po_ow h h' := by
  intro u
  induction u with
  | zero =>
    intro n O k h H C okO K hr h3 hla hu hk hn
    obtain ⟨m, rfl⟩ : ∃ m, n = m + 1 := ⟨n - 1, by omega⟩
    have hm := okO.1.2.1
    refine ⟨h, ?_, ?_, po_fr_refl h⟩
    · cases hl : sp_ord O p d with
      | nil => rw [gX11_allocate_L12, if_pos (show sp_hd [] < 0 by decide), show k = U by omega]
      | cons b t =>
        have hb := (so_head hl).1
        rw [gX11_allocate_L12, if_neg (show ¬ sp_hd (b :: t) < 0 from nI_pos (by omega)), if_neg (nI_nlt (by omega) (by omega)), show k = U by omega]
    · obtain ⟨k1, k2, k3, k4⟩ := K
      refine ⟨k1, k2, k3, fun r' hr' x hx => ?_⟩
      show _ = nI (if r' = r then sp_al O r' x + sp_tk (sp_free O) (sp_ord O p d) 0 x else sp_al O r' x)
      by_cases hrr : r' = r
      · rw [if_pos hrr, sp_tk_0, Nat.add_zero]
        exact k4 r' hr' x hx
      · rw [if_neg hrr]
        exact k4 r' hr' x hx
  | succ u ih =>
    intro n O k h H C okO K hr h3 hla hu hk hn
    obtain ⟨m, rfl⟩ : ∃ m, n = m + 1 := ⟨n - 1, by omega⟩
    have hm := okO.1.2.1
    have hr10 := okO.1.2.2
    rw [← sp_lsum_av] at hu
    cases hl : sp_ord O p d with
    | nil =>
      rw [hl] at hu
      exact absurd hu (Nat.not_succ_le_zero u)
    | cons b t =>
      obtain ⟨b1, b2, b3, b4⟩ := so_head hl
      rw [hl] at hu
      have hf1 : ∀ i, sp_free (sp_give O r (so_d b)) i = sp_free O i - (if i = b then 1 else 0) := fun i => sp_give_free hr h3
      have hn1 := so_ord1 (O1 := sp_give O r (so_d b)) hl rfl (fun i => rfl) (fun i => rfl) hf1
      have hs1 : sp_sum (so_d b) (sp_nb O) = 1 := sp_sum_one b1
      have ok1 : sp_ok (sp_give O r (so_d b)) := sp_give_ok okO hr h3 (fun x hx => by
        show (if x = b then 1 else 0) ≤ sp_free O x
        by_cases hxb : x = b
        · rw [if_pos hxb, hxb]
          exact b3
        · rw [if_neg hxb]
          exact Nat.zero_le _) (fun x hx => if_neg (by omega)) (by rw [hs1]; omega)
      have K1 := so_give1 K ho hr b1
      have f1 : po_fr po_ow h (ms_I h (o + 3 + r) b (mh_I h (o + 3 + r) b + 1)) := po_fr_I (decide_eq_true (by omega))
      have H1 := ra_c_ow H f1
      have C1 : so_C (sp_give O r (so_d b)) (sa_S A) := C
      obtain ⟨h', g1, g2, g3⟩ := ih m (sp_give O r (so_d b)) (k + 1) _ H1 C1 ok1 K1 hr h3 (by
        rw [sp_give_alls, hs1]
        show u ≤ sp_r O r 1 - (sp_alls O r + 1)
        omega) (by
        rw [← sp_lsum_av, hn1]
        have := sp_lsum_one (f := sp_free O) (f1 := sp_free (sp_give O r (so_d b))) b3 b4 hf1
        omega) (by omega) (by omega)
      have hnx := so_next H1 ok C1 ok1 K1 hp hd
      refine ⟨h', ?_, ?_, po_fr_trans f1 g3⟩
      · rw [gX11_allocate_L12, show sp_hd (b :: t) = nI b from rfl, if_neg (nI_pos (by omega)), if_pos (nI_lt (by omega) hU), if_pos (po_ibd (n := 10) (by omega) (by decide)), if_pos (po_ibd (n := 20) (by omega) (by decide)), if_pos (po_ibd (n := 20) (by omega) (by decide)), Option.bind_some, Option.bind_some, nI_clamp (show b < 2 ^ 31 by omega), nI_clamp (show r < 2 ^ 31 by omega), hnx, Option.bind_some]
        dsimp only
        rw [nI_1]
        exact g1
      · rw [hn1, sp_give_give (t := so_d b) (t' := sp_tk (sp_free (sp_give O r (so_d b))) (if 1 < sp_free O b then b :: t else t) u) (t'' := sp_tk (sp_free O) (b :: t) (u + 1)) (fun x => sp_tk_one (x := x) b3 b4 hf1)] at g2
        exact g2
theorem so_alloc (H : ra_c A h) (ok : sa_ok A) (ho : 352 ≤ o) (C : so_C O (sa_S A)) (okO : sp_ok O) (K : so_S O o h) {r p d u : Nat} (hp : p < 2 ^ 31) (hd : d < 2 ^ 31) (hr : r < sp_nr O) (h3 : sp_r O r 3 = 0) (hla : u ≤ sp_r O r 1 - sp_alls O r) (hu : u ≤ sp_av O p d) (hu9 : u < 2 ^ 10) :
    ∃ h', gX11_allocate o (nI r) (nI p) (nI u) (nI d) h = some (.inl (nI u), h') ∧ so_S (sp_give O r (sp_tk (sp_free O) (sp_ord O p d) u)) o h' ∧ po_fr po_ow h h' := by
  obtain ⟨h', g1, g2, g3⟩ := so_alloc_L ok ho hp hd (U := u) (by omega) u mm_F O 0 h H C okO K hr h3 hla hu (by omega) (Nat.lt_of_lt_of_le hu9 (by decide))
  refine ⟨h', ?_, g2, g3⟩
  unfold gX11_allocate
  rw [so_next H ok C okO K hp hd, Option.bind_some]
  exact g1
end POX

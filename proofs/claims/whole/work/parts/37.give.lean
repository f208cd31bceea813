section PPH
/-! reservations take units: the reference's allocate -/
theorem sp_sum_one {n b m : Nat} (hb : b < n) : sp_sum (fun x => if x = b then m else 0) n = m := by
  have h1 := sp_sum_set (f := fun x => if x = b then m else 0) (g := fun _ => 0) (k := b) hb (fun i _ hi => if_neg hi)
  have h2 : sp_sum (fun _ => 0) n = 0 := sp_sum_zero (fun _ _ => rfl)
  rw [h2, if_pos rfl] at h1
  omega
theorem sp_give_held {S : sp_S} {r b : Nat} {t : Nat → Nat} (hr : r < sp_nr S) (h3 : sp_r S r 3 = 0) : sp_held (sp_give S r t) b = sp_held S b + t b := by
  have h1 := sp_sum_set (f := fun x => if sp_r S x 3 = 0 then (if x = r then sp_al S x b + t b else sp_al S x b) else 0) (g := fun x => if sp_r S x 3 = 0 then sp_al S x b else 0) (k := r) hr (fun i _ hi => by
    by_cases hc : sp_r S i 3 = 0
    · rw [if_pos hc, if_pos hc, if_neg hi]
    · rw [if_neg hc, if_neg hc])
  rw [if_pos h3, if_pos h3, if_pos rfl] at h1
  show sp_sum (fun x => if sp_r S x 3 = 0 then (if x = r then sp_al S x b + t b else sp_al S x b) else 0) (sp_nr S) = sp_sum (fun x => if sp_r S x 3 = 0 then sp_al S x b else 0) (sp_nr S) + t b
  omega
theorem sp_give_free {S : sp_S} {r b : Nat} {t : Nat → Nat} (hr : r < sp_nr S) (h3 : sp_r S r 3 = 0) : sp_free (sp_give S r t) b = sp_free S b - t b := by
  show sp_b S b 1 - sp_held (sp_give S r t) b = sp_b S b 1 - sp_held S b - t b
  rw [sp_give_held hr h3]
  omega
theorem sp_give_alls (S : sp_S) (r : Nat) (t : Nat → Nat) : sp_alls (sp_give S r t) r = sp_alls S r + sp_sum t (sp_nb S) := by
  show sp_sum (fun b => if r = r then sp_al S r b + t b else sp_al S r b) (sp_nb S) = sp_sum (fun b => sp_al S r b) (sp_nb S) + sp_sum t (sp_nb S)
  rw [← sp_sum_add]
  exact sp_sum_eq (fun i _ => if_pos rfl)
theorem sp_al_held {S : sp_S} {r b : Nat} (hr : r < sp_nr S) (h3 : sp_r S r 3 = 0) : sp_al S r b ≤ sp_held S b := by
  have h1 := sp_sum_at (f := fun x => if sp_r S x 3 = 0 then sp_al S x b else 0) hr
  rw [if_pos h3] at h1
  exact h1
theorem sp_give_ok {S : sp_S} (ok : sp_ok S) {r : Nat} {t : Nat → Nat} (hr : r < sp_nr S) (h3 : sp_r S r 3 = 0) (ht : ∀ b, b < sp_nb S → t b ≤ sp_free S b) (h0 : ∀ b, sp_nb S ≤ b → t b = 0) (hs : sp_sum t (sp_nb S) ≤ sp_r S r 1 - sp_alls S r) : sp_ok (sp_give S r t) := by
  refine ⟨ok.1, fun b hb => ?_, fun x hx => ?_⟩
  · obtain ⟨h1, h2, h4, h5, h6⟩ := ok.2.1 b hb
    have h7 := ht b hb
    refine ⟨h1, h2, h4, h5, ?_⟩
    show sp_held (sp_give S r t) b ≤ sp_b S b 1
    rw [sp_give_held hr h3]
    unfold sp_free at h7
    omega
  · obtain ⟨h1, h2, h4, h5, h6, h7⟩ := ok.2.2 x hx
    refine ⟨h1, h2, h4, h5, fun b hb => ?_, fun h9 => ?_⟩
    · show (if x = r then sp_al S x b + t b else sp_al S x b) ≤ 999 ∧ (sp_nb S ≤ b → (if x = r then sp_al S x b + t b else sp_al S x b) = 0)
      by_cases hxr : x = r
      · subst hxr
        rw [if_pos rfl]
        by_cases hbn : b < sp_nb S
        · have h8 := ht b hbn
          have h10 := sp_al_held (b := b) hr h3
          have h11 := ok.2.1 b hbn
          unfold sp_free at h8
          exact ⟨by omega, fun z => by omega⟩
        · have h8 := h0 b (by omega)
          have h10 := h6 b hb
          exact ⟨by omega, fun z => by have := h10.2 z; omega⟩
      · rw [if_neg hxr]
        exact h6 b hb
    · show sp_alls (sp_give S r t) x ≤ sp_r S x 1
      by_cases hxr : x = r
      · subst hxr
        rw [sp_give_alls]
        have := h7 h3
        omega
      · have e1 : sp_alls (sp_give S r t) x = sp_alls S x := sp_sum_eq (fun b _ => if_neg hxr)
        rw [e1]
        exact h7 h9
theorem sp_give_0 (S : sp_S) (r : Nat) : sp_give S r (fun _ => 0) = S := by
  obtain ⟨a, b, c, d, e⟩ := S
  unfold sp_give sp_al
  dsimp only
  have h1 : (fun (x v : Nat) => if x = r then d x v + 0 else d x v) = d := by
    funext x v
    split <;> rfl
  rw [h1]
theorem sp_give_give {S : sp_S} {r : Nat} {t t' t'' : Nat → Nat} (ht : ∀ b, t b + t' b = t'' b) : sp_give (sp_give S r t) r t' = sp_give S r t'' := by
  obtain ⟨a, b, c, d, e⟩ := S
  unfold sp_give sp_al
  dsimp only
  have h1 : (fun (x v : Nat) => if x = r then (if x = r then d x v + t v else d x v) + t' v else if x = r then d x v + t v else d x v) = (fun x v => if x = r then d x v + t'' v else d x v) := by
    funext x v
    have := ht v
    by_cases hx : x = r
    · rw [if_pos hx, if_pos hx, if_pos hx]; omega
    · rw [if_neg hx, if_neg hx, if_neg hx]
  rw [h1]
theorem sp_tk_sum {f : Nat → Nat} {n : Nat} : ∀ {l : List Nat} {q : Nat}, sp_srt (fun _ => 0) l → (∀ x, x ∈ l → x < n) → sp_sum (sp_tk f l q) n = q - sp_left f l q
  | [], q, _, _ => by
    show sp_sum (fun _ => 0) n = q - q
    rw [sp_sum_zero (fun _ _ => rfl), Nat.sub_self]
  | b :: t, q, hs, hm => by
    have hb := hm b List.mem_cons_self
    have h1 := sp_tk_sum (f := f) (n := n) (l := t) (q := q - min q (f b)) hs.2 (fun x hx => hm x (List.mem_cons_of_mem _ hx))
    have h2 := sp_sum_set (f := sp_tk f (b :: t) q) (g := sp_tk f t (q - min q (f b))) (k := b) hb (fun i _ hi => if_neg hi)
    have h3 : sp_tk f t (q - min q (f b)) b = 0 := sp_tk_no (fun z => (hs.1 b z).2 rfl)
    have h4 : sp_tk f (b :: t) q b = min q (f b) := if_pos rfl
    have h5 := sp_left_le (f := f) (l := t) (q := q - min q (f b))
    have h6 : sp_left f (b :: t) q = sp_left f t (q - min q (f b)) := rfl
    rw [h3, h4, h1] at h2
    rw [h6]
    have h7 := Nat.min_le_left q (f b)
    omega
theorem sp_srt_0 {e : Nat → Nat} : ∀ {l : List Nat}, sp_srt e l → sp_srt (fun _ => 0) l
  | [], _ => trivial
  | _ :: _, h => ⟨fun z hz => ⟨Nat.le_refl _, (h.1 z hz).2⟩, sp_srt_0 h.2⟩
variable {S : sp_S} {h : mm_H}
theorem pm_give1 (H : sm_S S 0 h) (ok : sp_ok S) {r b m : Nat} (hr : r < sp_nr S) (hb : b < 20) :
    sm_S (sp_give S r (fun x => if x = b then m else 0)) 0 (ms_I h 353 (180 + 24 * r + (4 + b)) (nI (sp_al S r b) + nI m)) := by
  have hr10 := pc_r10 ok hr
  refine ⟨⟨?_, ?_, ?_⟩, fun x hx w hw => ?_, fun x hx => ⟨fun w hw => ?_, fun y hy => ?_⟩, fun x hx w hw => ?_⟩
  · rw [po_I4 (by omega)]; exact H.1.1
  · rw [po_I4 (by omega)]; exact H.1.2.1
  · rw [po_I4 (by omega)]; exact H.1.2.2
  · have hx20 := pc_b20 ok (show x < sp_nb S from hx)
    rw [po_I4 (by omega)]; exact H.2.1 x hx w hw
  · have hx10 := pc_r10 ok (show x < sp_nr S from hx)
    rw [po_I4 (by omega)]; exact (H.2.2.1 x hx).1 w hw
  · have hx10 := pc_r10 ok (show x < sp_nr S from hx)
    have h0 := (H.2.2.1 x hx).2 y hy
    show _ = nI (if x = r then sp_al S x y + (if y = b then m else 0) else sp_al S x y)
    by_cases hc : x = r ∧ y = b
    · obtain ⟨rfl, rfl⟩ := hc
      rw [if_pos rfl, if_pos rfl, show 420 * 0 + 184 + 24 * x + y = 180 + 24 * x + (4 + y) by omega, po_I1, nI_add]
    · rw [po_I4 (by omega), h0]
      by_cases hxr : x = r
      · rw [if_pos hxr, if_neg (fun z => hc ⟨hxr, z⟩), Nat.add_zero]
      · rw [if_neg hxr]
  · rw [po_I4 (by omega)]; exact H.2.2.2 x hx w hw
theorem pm_allocate_L {p d r : Nat} {u : Int32} (hp : p < 2 ^ 31) (hd : d < 2 ^ 31) : ∀ (t : List Nat) (n : Nat) (S : sp_S) (h : mm_H) (q : Nat), sm_S S 0 h → sp_ok S → r < sp_nr S → sp_r S r 3 = 0 → sp_ord S p d = t → t.length < n → q ≤ sp_r S r 1 - sp_alls S r →
    ∃ h', gX11_allocate_L20 (nI r) u (nI d) (nI p) n (nI q) (sp_hd t) h = some (u - nI (sp_left (sp_free S) t q), h') ∧ sm_S (sp_give S r (sp_tk (sp_free S) t q)) 0 h' ∧ po_fx h h' := by
  have stop : ∀ (t : List Nat) (w : Int32) (n : Nat) (S : sp_S) (h : mm_H), sm_S S 0 h → 0 < n →
      ∃ h', gX11_allocate_L20 (nI r) u (nI d) (nI p) n (nI 0) w h = some (u - nI (sp_left (sp_free S) t 0), h') ∧ sm_S (sp_give S r (sp_tk (sp_free S) t 0)) 0 h' ∧ po_fx h h' := by
    intro t w n S h H hn
    obtain ⟨n, rfl⟩ : ∃ k, n = k + 1 := ⟨n - 1, by omega⟩
    rw [gX11_allocate_L20, mm_jn, if_neg (po_n0lt (b := 0) (by omega)), sp_left_0, show sp_tk (sp_free S) t 0 = fun _ => 0 from funext fun x => sp_tk_0, sp_give_0]
    exact ⟨h, rfl, H, po_fx_refl h⟩
  intro t
  induction t with
  | nil =>
    intro n S h q H ok hr h3 ht hn hq
    by_cases hq0 : q = 0
    · subst hq0
      exact stop [] _ n S h H (by omega)
    · obtain ⟨n, rfl⟩ : ∃ k, n = k + 1 := ⟨n - 1, by simp at hn; omega⟩
      have hr1 := (ok.2.2 r hr).2.1
      rw [gX11_allocate_L20, mm_jn, if_pos (po_0lt (by omega) (by omega)), if_pos (show sp_hd [] = -1 from rfl)]
      refine ⟨h, rfl, ?_, po_fx_refl h⟩
      show sm_S (sp_give S r (fun _ => 0)) 0 h
      rw [sp_give_0]
      exact H
  | cons b t ih =>
    intro n S h q H ok hr h3 ht hn hq
    by_cases hq0 : q = 0
    · subst hq0
      exact stop (b :: t) _ n S h H (by omega)
    · obtain ⟨n, rfl⟩ : ∃ k, n = k + 1 := ⟨n - 1, by omega⟩
      have hbm : b ∈ sp_ord S p d := ht ▸ List.mem_cons_self
      obtain ⟨hb, hel⟩ := sp_ordk_mem.mp hbm
      have hb20 := pc_b20 ok hb
      have hr10 := pc_r10 ok hr
      have hfr := sp_free_le ok hb
      have hr1 := (ok.2.2 r hr).2.1
      rw [gX11_allocate_L20, mm_jn, if_pos (po_0lt (by omega) (by omega)), if_neg (show ¬ sp_hd (b :: t) = -1 from po_nm1 (by omega)), show sp_hd (b :: t) = nI b from rfl, pm_free H ok hb]
      simp only [mm_jn, Option.bind_some]
      generalize hmm : min q (sp_free S b) = m
      have hmq : m ≤ q := hmm ▸ Nat.min_le_left _ _
      have hmf' : m ≤ sp_free S b := hmm ▸ Nat.min_le_right _ _
      have hone := pm_give1 (m := m) H ok hr hb20
      have hok1 : sp_ok (sp_give S r (fun x => if x = b then m else 0)) := sp_give_ok ok hr h3 (fun x hx => by
        by_cases hxb : x = b
        · rw [if_pos hxb, hxb]; exact hmf'
        · rw [if_neg hxb]; exact Nat.zero_le _) (fun x hx => if_neg (by omega)) (by rw [sp_sum_one hb]; omega)
      have turn : ∃ h', (gX11_ofReservation (nI r) ((4 + nI b)) h).bind (fun (x19 : Int32) =>
          (gX11_setReservation (nI r) ((4 + nI b)) ((x19 + nI m)) h).bind (fun (h21 : mm_H) =>
          (gX11_firstBatch (nI p) (nI d) h21).bind (fun (x24 : Int32) =>
          gX11_allocate_L20 (nI r) u (nI d) (nI p) n (nI q - nI m) x24 h21))) = some (u - nI (sp_left (sp_free S) (b :: t) q), h') ∧ sm_S (sp_give S r (sp_tk (sp_free S) (b :: t) q)) 0 h' ∧ po_fx h h' := by
        rw [pm_a H ok hr hb20]
        simp only [Option.bind_some]
        rw [pm_setR (w := 4 + b) (by rw [← nI_add]; rfl) (by have := pc_r10 ok hr; omega) (by omega)]
        simp only [Option.bind_some]
        have hfr2 : po_fx h (ms_I h 353 (180 + 24 * r + (4 + b)) (nI (sp_al S r b) + nI m)) := po_fx_I (po_kp (by first | omega | decide))
        generalize ms_I h 353 (180 + 24 * r + (4 + b)) (nI (sp_al S r b) + nI m) = h2 at hone hfr2 ⊢
        rw [pm_first hone hok1 hp hd]
        simp only [Option.bind_some]
        rw [pk_sub hmq]
        have elf : sp_left (sp_free S) (b :: t) q = sp_left (sp_free S) t (q - m) := by
          show sp_left (sp_free S) t (q - min q (sp_free S b)) = _
          rw [hmm]
        have etk : ∀ x, sp_tk (sp_free S) (b :: t) q x = if x = b then m else sp_tk (sp_free S) t (q - m) x := fun x => by
          show (if x = b then min q (sp_free S b) else sp_tk (sp_free S) t (q - min q (sp_free S b)) x) = _
          rw [hmm]
        rw [elf]
        by_cases hq1 : q - m = 0
        · rw [hq1]
          rw [hq1] at etk
          obtain ⟨h', e1, e2, e3⟩ := stop t (sp_hd (sp_ord (sp_give S r (fun x => if x = b then m else 0)) p d)) n _ h2 hone (by simp at hn; omega)
          refine ⟨h', ?_, ?_, po_fx_trans hfr2 e3⟩
          · rw [e1, sp_left_0, sp_left_0]
          · rw [sp_give_give (t'' := sp_tk (sp_free S) (b :: t) q) (fun x => by rw [etk, sp_tk_0, sp_tk_0, Nat.add_zero])] at e2
            exact e2
        · have hmf : m = sp_free S b := by
            rcases Nat.le_total q (sp_free S b) with h9 | h9
            · rw [Nat.min_eq_left h9] at hmm
              omega
            · rw [← hmm]
              exact Nat.min_eq_right h9
          have hnd : b ∉ t := by
            have hs : sp_srt (sp_e S) (b :: t) := ht ▸ sp_ordk_srt
            exact fun z => (hs.1 b z).2 rfl
          have hfree : ∀ z, z ≠ b → sp_free (sp_give S r (fun x => if x = b then m else 0)) z = sp_free S z := fun z hz => by
            rw [sp_give_free hr h3, if_neg hz, Nat.sub_zero]
          have htl : sp_ord (sp_give S r (fun x => if x = b then m else 0)) p d = t :=
            sp_ordk_tail ht (fun i hi => sp_el_free rfl rfl (hfree i) (by rw [sp_give_free hr h3, if_pos rfl, hmf, Nat.sub_self]))
          rw [htl]
          obtain ⟨h', e1, e2, e3⟩ := ih n _ h2 (q - m) hone hok1 hr h3 htl (by simp at hn; omega) (by rw [sp_give_alls, sp_sum_one hb]; show q - m ≤ sp_r S r 1 - _; omega)
          have hzt : ∀ z, z ∈ t → sp_free (sp_give S r (fun x => if x = b then m else 0)) z = sp_free S z := fun z hz => hfree z (fun z9 => hnd (z9 ▸ hz))
          refine ⟨h', ?_, ?_, po_fx_trans hfr2 e3⟩
          · rw [e1, sp_left_eq hzt]
          · rw [sp_give_give (t'' := sp_tk (sp_free S) (b :: t) q) (fun x => by
                rw [etk, sp_tk_eq hzt]
                by_cases hxb : x = b
                · rw [if_pos hxb, if_pos hxb, hxb, sp_tk_no hnd, Nat.add_zero]
                · rw [if_neg hxb, if_neg hxb, Nat.zero_add])] at e2
            exact e2
      by_cases hc : sp_free S b < q
      · rw [if_pos (nI_lt hc (by omega)), show sp_free S b = m by rw [← hmm, Nat.min_eq_right (by omega)]]
        exact turn
      · have hqm : q = m := by rw [← hmm, Nat.min_eq_left (by omega)]
        rw [if_neg (nI_nlt (by omega) (by omega))]
        rw [← hqm] at turn
        exact turn
theorem pm_allocate (H : sm_S S 0 h) (ok : sp_ok S) {r q d : Nat} (hr : r < sp_nr S) (h3 : sp_r S r 3 = 0) (hd : d < 2 ^ 31) (hq : q ≤ sp_r S r 1 - sp_alls S r) :
    ∃ h', gX11_allocate (nI r) (nI q) (nI d) h = some (nI (q - sp_left (sp_free S) (sp_ord S (sp_r S r 0) d) q), h') ∧ sm_S (sp_give S r (sp_tk (sp_free S) (sp_ord S (sp_r S r 0) d) q)) 0 h' ∧ po_fx h h' := by
  unfold gX11_allocate
  rw [pm_r H ok (x := 0) (w := 0) rfl hr (by decide)]
  simp only [Option.bind_some]
  have hr0 := (ok.2.2 r hr).1
  rw [pm_first H ok (by omega) hd]
  simp only [Option.bind_some]
  have h1 : (sp_ord S (sp_r S r 0) d).length < mm_F := Nat.lt_of_le_of_lt sp_ordk_len (pc_nbF ok)
  obtain ⟨h', e1, e2, e3⟩ := pm_allocate_L (u := nI q) (by omega) hd (sp_ord S (sp_r S r 0) d) mm_F S h q H ok hr h3 rfl h1 hq
  rw [pk_sub sp_left_le] at e1
  exact ⟨h', e1, e2, e3⟩
end PPH

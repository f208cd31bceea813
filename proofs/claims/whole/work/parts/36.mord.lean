section PPG
/-! the reference takes from the first batch, again and again -/
def sp_hd : List Nat → Int32
  | [] => -1
  | b :: _ => nI b
theorem po_nm1 {b : Nat} (hb : b < 2 ^ 31) : ¬ nI b = -1 := by
  intro h
  have h1 := nI_pos hb
  rw [h] at h1
  exact h1 (by decide)
variable {S : sp_S} {h : mm_H}
theorem pm_first (H : sm_S S 0 h) (ok : sp_ok S) {p d : Nat} (hp : p < 2 ^ 31) (hd : d < 2 ^ 31) : gX11_firstBatch (nI p) (nI d) h = some (sp_hd (sp_ord S p d)) := by
  refine po_loopF (fun n i s => gX11_firstBatch_L5 (nI p) (nI d) h n s (nI i)) (sp_nb S) (fun i => sp_hd (sp_ordk (sp_e S) (sp_el S p d) i)) _ (fun n => ?_) (fun n i hi => ?_) mm_F 0 (Nat.zero_le _) (pc_nbF ok)
  · try dsimp only
    rw [gX11_firstBatch_L5, if_pos po_m2, if_neg (pm_nlt H ok)]
    rfl
  · try dsimp only
    rw [gX11_firstBatch_L5, if_pos po_m2, if_pos (pm_lt H ok hi), pm_can H ok hi hp hd]
    simp only [mm_jn, Option.bind_some, nI_1]
    by_cases hc : sp_el S p d i = true
    · rw [if_pos hc]
      have e1 : sp_ordk (sp_e S) (sp_el S p d) (i + 1) = sp_ins (sp_e S) i (sp_ordk (sp_e S) (sp_el S p d) i) := by
        rw [sp_ordk, if_pos hc]
      rw [e1]
      have hm : ∀ z, z ∈ sp_ordk (sp_e S) (sp_el S p d) i → z < i := fun z hz => (sp_ordk_mem.mp hz).1
      generalize sp_ordk (sp_e S) (sp_el S p d) i = l at hm
      cases l with
      | nil =>
        rw [if_pos (show sp_hd [] = -1 from rfl)]
        rfl
      | cons b t =>
        have hb := hm b List.mem_cons_self
        have hb2 : b < sp_nb S := Nat.lt_trans hb hi
        have hb3 := pc_b20 ok hb2
        have h5 := (ok.2.1 b hb2).2.2.1
        have h6 := (ok.2.1 i hi).2.2.1
        rw [if_neg (show ¬ sp_hd (b :: t) = -1 from po_nm1 (by omega)), pm_b H ok (x := 2) (w := 2) rfl hi (by decide)]
        simp only [Option.bind_some]
        rw [show sp_hd (b :: t) = nI b from rfl, pm_b H ok (x := 2) (w := 2) rfl hb2 (by decide)]
        simp only [Option.bind_some]
        unfold sp_ins sp_e
        by_cases hc3 : sp_b S i 2 < sp_b S b 2
        · rw [if_pos (nI_lt hc3 (by omega)), if_pos hc3]
          rfl
        · rw [if_neg (nI_nlt (by omega) (by omega)), if_neg hc3]
          rfl
    · rw [if_neg hc, sp_ordk, if_neg hc]
/-! changes of a stock -/
def sp_take (S : sp_S) (p : Nat) (t : Nat → Nat) (q : Nat) : sp_S :=
  (S.1, (fun b v => if v = 1 then sp_b S b 1 - t b else sp_b S b v), S.2.2.1, S.2.2.2.1, (fun x w => if x = p ∧ w = 1 then sp_ac S x w + nI q else sp_ac S x w))
def sp_give (S : sp_S) (r : Nat) (t : Nat → Nat) : sp_S := (S.1, S.2.1, S.2.2.1, (fun x b => if x = r then sp_al S x b + t b else sp_al S x b), S.2.2.2.2)
theorem sp_take_free (S : sp_S) (p : Nat) (t : Nat → Nat) (q b : Nat) : sp_free (sp_take S p t q) b = sp_free S b - t b := by
  show (if 1 = 1 then sp_b S b 1 - t b else sp_b S b 1) - sp_held S b = sp_b S b 1 - sp_held S b - t b
  rw [if_pos rfl]
  omega
theorem sp_take_ok {S : sp_S} (ok : sp_ok S) {p q : Nat} {t : Nat → Nat} (ht : ∀ b, b < sp_nb S → t b ≤ sp_free S b) : sp_ok (sp_take S p t q) := by
  refine ⟨ok.1, fun b hb => ?_, ok.2.2⟩
  obtain ⟨h1, h2, h3, h4, h5⟩ := ok.2.1 b hb
  have h6 := ht b hb
  unfold sp_free at h6
  refine ⟨h1, ?_, h3, h4, ?_⟩
  · show (if 1 = 1 then sp_b S b 1 - t b else sp_b S b 1) ≤ 999
    rw [if_pos rfl]
    omega
  · show sp_held S b ≤ (if 1 = 1 then sp_b S b 1 - t b else sp_b S b 1)
    rw [if_pos rfl]
    omega
theorem sp_take_0 (S : sp_S) (p : Nat) : sp_take S p (fun _ => 0) 0 = S := by
  obtain ⟨a, b, c, d, e⟩ := S
  unfold sp_take sp_b sp_ac
  dsimp only
  have h1 : (fun (x v : Nat) => if v = 1 then b x 1 - 0 else b x v) = b := by
    funext x v
    by_cases hv : v = 1
    · rw [if_pos hv, hv]; rfl
    · rw [if_neg hv]
  have h2 : (fun (x w : Nat) => if x = p ∧ w = 1 then e x w + nI 0 else e x w) = e := by
    funext x w
    split
    · exact Int32.add_zero _
    · rfl
  rw [h1, h2]
theorem sp_take_take {S : sp_S} {p q q' q'' : Nat} {t t' t'' : Nat → Nat} (ht : ∀ b, t b + t' b = t'' b) (hq : q + q' = q'') : sp_take (sp_take S p t q) p t' q' = sp_take S p t'' q'' := by
  obtain ⟨a, b, c, d, e⟩ := S
  unfold sp_take sp_b sp_ac
  dsimp only
  have h1 : (fun (x v : Nat) => if v = 1 then (if 1 = 1 then b x 1 - t x else b x 1) - t' x else if v = 1 then b x 1 - t x else b x v) = (fun x v => if v = 1 then b x 1 - t'' x else b x v) := by
    funext x v
    have := ht x
    by_cases hv : v = 1
    · rw [if_pos hv, if_pos hv, if_pos rfl]; omega
    · rw [if_neg hv, if_neg hv, if_neg hv]
  have h2 : (fun (x w : Nat) => if x = p ∧ w = 1 then (if x = p ∧ w = 1 then e x w + nI q else e x w) + nI q' else if x = p ∧ w = 1 then e x w + nI q else e x w) = (fun x w => if x = p ∧ w = 1 then e x w + nI q'' else e x w) := by
    funext x w
    by_cases hv : x = p ∧ w = 1
    · rw [if_pos hv, if_pos hv, if_pos hv, Int32.add_assoc, nI_add, hq]
    · rw [if_neg hv, if_neg hv, if_neg hv]
  rw [h1, h2]
/-- the only array of stocks that the reference changes -/
def po_m353 (q : Nat) : Bool := q == 353
/-- cells of the array that belong to the catalog or to other blocks -/
def po_keep (k : Nat) : Bool := decide (420 ≤ k ∨ k = 1 ∨ (4 ≤ k ∧ k < 100 ∧ (k - 4) % 12 < 8))
theorem po_kp {k : Nat} (h : ¬ (420 ≤ k ∨ k = 1 ∨ (4 ≤ k ∧ k < 100 ∧ (k - 4) % 12 < 8))) : po_keep k = false := decide_eq_false h
def po_fx (h h' : mm_H) : Prop := po_fr po_m353 h h' ∧ ∀ k, po_keep k = true → mh_I h' 353 k = mh_I h 353 k
theorem po_fx_refl (h : mm_H) : po_fx h h := ⟨po_fr_refl h, fun _ _ => rfl⟩
theorem po_fx_trans {a b c : mm_H} (h1 : po_fx a b) (h2 : po_fx b c) : po_fx a c := ⟨po_fr_trans h1.1 h2.1, fun k hk => (h2.2 k hk).trans (h1.2 k hk)⟩
theorem po_fx_I {h : mm_H} {k : Nat} {v : Int32} (hk : po_keep k = false) : po_fx h (ms_I h 353 k v) := ⟨po_fr_I (by decide), fun j hj => po_I4 (fun z => by rw [z, hk] at hj; cases hj)⟩
theorem sp_left_le {f : Nat → Nat} : ∀ {l : List Nat} {q : Nat}, sp_left f l q ≤ q
  | [], _ => Nat.le_refl _
  | b :: t, q => by
    unfold sp_left
    have := sp_left_le (f := f) (l := t) (q := q - min q (f b))
    omega
theorem pm_setB {b w : Nat} {x v : Int32} (hw : x = nI w) (hb : b < 40) (h4 : w < 4) : gX11_setBatch (nI b) x v h = some (ms_I h 353 (100 + 4 * b + w) v) := by
  unfold gX11_setBatch
  rw [pm_eB hw, if_pos (po_ibd (by omega) (by decide)), nI_clamp (by omega)]
  rfl
theorem pm_setR {b w : Nat} {x v : Int32} (hw : x = nI w) (hb : b < 40) (h4 : w < 24) : gX11_setReservation (nI b) x v h = some (ms_I h 353 (180 + 24 * b + w) v) := by
  unfold gX11_setReservation
  rw [pm_eR hw, if_pos (po_ibd (by omega) (by decide)), nI_clamp (by omega)]
  rfl
theorem pm_note {b w : Nat} {x v : Int32} (hw : x = nI w) (hb : b < 40) (h4 : w < 12) : gX11_note (nI b) x v h = some (ms_I h 353 (4 + 12 * b + w) (mh_I h 353 (4 + 12 * b + w) + v)) := by
  unfold gX11_note
  rw [pm_eP hw, if_pos (po_ibd (by omega) (by decide)), if_pos (po_ibd (by omega) (by decide)), nI_clamp (by omega)]
  rfl
/-- one batch gives m units -/
theorem pm_take1 (H : sm_S S 0 h) (ok : sp_ok S) {b p m : Nat} (hb : b < sp_nb S) (hp : p < 8) (hm : m ≤ sp_b S b 1) :
    sm_S (sp_take S p (fun x => if x = b then m else 0) m) 0 (ms_I (ms_I h 353 (100 + 4 * b + 1) (nI (sp_b S b 1) - nI m)) 353 (4 + 12 * p + 9) (mh_I (ms_I h 353 (100 + 4 * b + 1) (nI (sp_b S b 1) - nI m)) 353 (4 + 12 * p + 9) + nI m)) := by
  have hb20 := pc_b20 ok hb
  refine ⟨⟨?_, ?_, ?_⟩, fun x hx w hw => ?_, fun r hr => ⟨fun w hw => ?_, fun x hx => ?_⟩, fun x hx w hw => ?_⟩
  · rw [po_I4 (by omega), po_I4 (by omega)]; exact H.1.1
  · rw [po_I4 (by omega), po_I4 (by omega)]; exact H.1.2.1
  · rw [po_I4 (by omega), po_I4 (by omega)]; exact H.1.2.2
  · have hx20 := pc_b20 ok (show x < sp_nb S from hx)
    have h0 := H.2.1 x hx w hw
    show _ = nI (if w = 1 then sp_b S x 1 - (if x = b then m else 0) else sp_b S x w)
    rw [po_I4 (by omega)]
    by_cases hc : x = b ∧ w = 1
    · obtain ⟨rfl, rfl⟩ := hc
      rw [if_pos rfl, if_pos rfl, show 420 * 0 + 100 + 4 * x + 1 = 100 + 4 * x + 1 by omega, po_I1, pk_sub hm]
    · rw [po_I4 (by omega), h0]
      by_cases hw1 : w = 1
      · subst hw1
        rw [if_pos rfl, if_neg (fun z => hc ⟨z, rfl⟩), Nat.sub_zero]
      · rw [if_neg hw1]
  · have hr10 := pc_r10 ok (show r < sp_nr S from hr)
    rw [po_I4 (by omega), po_I4 (by omega)]; exact (H.2.2.1 r hr).1 w hw
  · have hr10 := pc_r10 ok (show r < sp_nr S from hr)
    rw [po_I4 (by omega), po_I4 (by omega)]; exact (H.2.2.1 r hr).2 x hx
  · have h0 := H.2.2.2 x hx w hw
    show _ = (if x = p ∧ w = 1 then sp_ac S x w + nI m else sp_ac S x w)
    by_cases hc : x = p ∧ w = 1
    · obtain ⟨rfl, rfl⟩ := hc
      rw [if_pos ⟨rfl, rfl⟩, show 420 * 0 + 12 + 12 * x + 1 = 4 + 12 * x + 9 by omega, po_I1, po_I4 (by omega), ← h0, show 420 * 0 + 12 + 12 * x + 1 = 4 + 12 * x + 9 by omega]
    · rw [if_neg hc, po_I4 (by omega), po_I4 (by omega)]
      exact h0
theorem sp_el_free {S S' : sp_S} {p d b i : Nat} (h1 : sp_b S' i 0 = sp_b S i 0) (h2 : sp_b S' i 2 = sp_b S i 2) (h3 : i ≠ b → sp_free S' i = sp_free S i) (h4 : sp_free S' b = 0) : sp_el S' p d i = (sp_el S p d i && decide (i ≠ b)) := by
  unfold sp_el
  rw [h1, h2]
  by_cases hi : i = b
  · subst hi
    rw [h4]
    simp
  · rw [h3 hi]
    simp [hi]
theorem sp_min_comm {q f : Nat} : (if nI f < nI q then nI f else nI q) = nI (min q f) ∨ ¬ (q < 2 ^ 31 ∧ f < 2 ^ 31) := by
  by_cases h : q < 2 ^ 31 ∧ f < 2 ^ 31
  · left
    by_cases hc : f < q
    · rw [if_pos (nI_lt hc h.1), Nat.min_eq_right (by omega)]
    · rw [if_neg (nI_nlt (by omega) h.2), Nat.min_eq_left (by omega)]
  · exact Or.inr h
theorem pm_takeOut_L {p d : Nat} (hp : p < 8) (hd : d < 2 ^ 31) : ∀ (t : List Nat) (n : Nat) (S : sp_S) (h : mm_H) (cost q : Nat), sm_S S 0 h → sp_ok S → sp_ord S p d = t → t.length < n → q < 2 ^ 31 →
    ∃ h', gX11_takeOut_L14 (nI p) (nI d) n (nI cost) (nI q) (sp_hd t) h = some (nI (cost + sp_cost (sp_free S) (fun b => sp_b S b 3) t q), h') ∧ sm_S (sp_take S p (sp_tk (sp_free S) t q) (q - sp_left (sp_free S) t q)) 0 h' ∧ po_fx h h' := by
  have stop : ∀ (t : List Nat) (w : Int32) (n : Nat) (S : sp_S) (h : mm_H) (cost : Nat), sm_S S 0 h → 0 < n →
      ∃ h', gX11_takeOut_L14 (nI p) (nI d) n (nI cost) (nI 0) w h = some (nI (cost + sp_cost (sp_free S) (fun b => sp_b S b 3) t 0), h') ∧ sm_S (sp_take S p (sp_tk (sp_free S) t 0) (0 - sp_left (sp_free S) t 0)) 0 h' ∧ po_fx h h' := by
    intro t w n S h cost H hn
    obtain ⟨n, rfl⟩ : ∃ k, n = k + 1 := ⟨n - 1, by omega⟩
    rw [gX11_takeOut_L14, if_neg (po_n0lt (b := 0) (by omega)), sp_cost_0, sp_left_0, show sp_tk (sp_free S) t 0 = fun _ => 0 from funext fun x => sp_tk_0, Nat.sub_zero, sp_take_0]
    exact ⟨h, rfl, H, po_fx_refl h⟩
  intro t
  induction t with
  | nil =>
    intro n S h cost q H ok ht hn hq
    by_cases hq0 : q = 0
    · subst hq0
      exact stop [] _ n S h cost H (by omega)
    · obtain ⟨n, rfl⟩ : ∃ k, n = k + 1 := ⟨n - 1, by simp at hn; omega⟩
      rw [gX11_takeOut_L14, if_pos (po_0lt (by omega) hq), if_pos (show sp_hd [] = -1 from rfl)]
      refine ⟨h, rfl, ?_, po_fx_refl h⟩
      show sm_S (sp_take S p (fun _ => 0) (q - q)) 0 h
      rw [Nat.sub_self, sp_take_0]
      exact H
  | cons b t ih =>
    intro n S h cost q H ok ht hn hq
    by_cases hq0 : q = 0
    · subst hq0
      exact stop (b :: t) _ n S h cost H (by omega)
    · obtain ⟨n, rfl⟩ : ∃ k, n = k + 1 := ⟨n - 1, by omega⟩
      have hbm : b ∈ sp_ord S p d := ht ▸ List.mem_cons_self
      obtain ⟨hb, hel⟩ := sp_ordk_mem.mp hbm
      have hb20 := pc_b20 ok hb
      have hfr := sp_free_le ok hb
      have hms : min q (sp_free S b) ≤ sp_b S b 1 := Nat.le_trans (Nat.min_le_right _ _) (Nat.sub_le _ _)
      rw [gX11_takeOut_L14, if_pos (po_0lt (by omega) hq), if_neg (show ¬ sp_hd (b :: t) = -1 from po_nm1 (by omega)), show sp_hd (b :: t) = nI b from rfl, pm_free H ok hb]
      simp only [mm_jn, Option.bind_some]
      have hone := pm_take1 H ok hb hp hms
      have hok1 : sp_ok (sp_take S p (fun x => if x = b then min q (sp_free S b) else 0) (min q (sp_free S b))) := sp_take_ok ok (fun x hx => by
        by_cases hxb : x = b
        · rw [if_pos hxb, hxb]; exact Nat.min_le_right _ _
        · rw [if_neg hxb]; exact Nat.zero_le _)
      -- the rest of the turn, at m = min q (free b)
      have turn : ∀ m, m = min q (sp_free S b) → ∃ h', (gX11_ofBatch (nI b) 1 h).bind (fun (x15 : Int32) =>
          (gX11_setBatch (nI b) 1 ((x15 - nI m)) h).bind (fun (h17 : mm_H) =>
          (gX11_note (nI p) 9 (nI m) h17).bind (fun (h19 : mm_H) =>
          (gX11_ofBatch (nI b) 3 h19).bind (fun (x21 : Int32) =>
          (gX11_firstBatch (nI p) (nI d) h19).bind (fun (x25 : Int32) =>
          gX11_takeOut_L14 (nI p) (nI d) n (nI cost + (nI m * x21)) (nI q - nI m) x25 h19))))) = some (nI (cost + sp_cost (sp_free S) (fun b => sp_b S b 3) (b :: t) q), h') ∧ sm_S (sp_take S p (sp_tk (sp_free S) (b :: t) q) (q - sp_left (sp_free S) (b :: t) q)) 0 h' ∧ po_fx h h' := by
        intro m hm
        subst hm
        rw [pm_b H ok (x := 1) (w := 1) rfl hb (by decide)]
        simp only [Option.bind_some]
        rw [pm_setB (x := 1) (w := 1) rfl (by omega) (by decide)]
        simp only [Option.bind_some]
        rw [pm_note (x := 9) (w := 9) rfl (by omega) (by decide)]
        simp only [Option.bind_some]
        have hfr2 : po_fx h (ms_I (ms_I h 353 (100 + 4 * b + 1) (nI (sp_b S b 1) - nI (min q (sp_free S b)))) 353 (4 + 12 * p + 9) (mh_I (ms_I h 353 (100 + 4 * b + 1) (nI (sp_b S b 1) - nI (min q (sp_free S b)))) 353 (4 + 12 * p + 9) + nI (min q (sp_free S b)))) := po_fx_trans (po_fx_I (po_kp (by first | omega | decide))) (po_fx_I (po_kp (by first | omega | decide)))
        generalize ms_I (ms_I h 353 (100 + 4 * b + 1) (nI (sp_b S b 1) - nI (min q (sp_free S b)))) 353 (4 + 12 * p + 9) (mh_I (ms_I h 353 (100 + 4 * b + 1) (nI (sp_b S b 1) - nI (min q (sp_free S b)))) 353 (4 + 12 * p + 9) + nI (min q (sp_free S b))) = h2 at hone hfr2 ⊢
        rw [pm_b hone hok1 (b := b) (x := 3) (w := 3) rfl hb (by decide)]
        simp only [Option.bind_some]
        rw [pm_first hone hok1 (by omega) hd]
        simp only [Option.bind_some]
        rw [show sp_b (sp_take S p (fun x => if x = b then min q (sp_free S b) else 0) (min q (sp_free S b))) b 3 = sp_b S b 3 from rfl, pk_mul, nI_add, pk_sub (Nat.min_le_left _ _)]
        by_cases hq1 : q - min q (sp_free S b) = 0
        · rw [hq1]
          obtain ⟨h', e1, e2, e3⟩ := stop t (sp_hd (sp_ord (sp_take S p (fun x => if x = b then min q (sp_free S b) else 0) (min q (sp_free S b))) p d)) n _ h2 (cost + min q (sp_free S b) * sp_b S b 3) hone (by simp at hn; omega)
          refine ⟨h', ?_, ?_, po_fx_trans hfr2 e3⟩
          · rw [e1, sp_cost_0]
            show _ = some (nI (cost + (min q (sp_free S b) * sp_b S b 3 + sp_cost (sp_free S) (fun b => sp_b S b 3) t (q - min q (sp_free S b)))), h')
            rw [hq1, sp_cost_0]
            rfl
          · have e4 : sp_take (sp_take S p (fun x => if x = b then min q (sp_free S b) else 0) (min q (sp_free S b))) p (sp_tk (sp_free (sp_take S p (fun x => if x = b then min q (sp_free S b) else 0) (min q (sp_free S b)))) t 0) (0 - sp_left (sp_free (sp_take S p (fun x => if x = b then min q (sp_free S b) else 0) (min q (sp_free S b)))) t 0) = sp_take S p (sp_tk (sp_free S) (b :: t) q) (q - sp_left (sp_free S) (b :: t) q) := by
              refine sp_take_take (fun x => ?_) ?_
              · rw [sp_tk_0]
                show _ = (if x = b then min q (sp_free S b) else sp_tk (sp_free S) t (q - min q (sp_free S b)) x)
                rw [hq1, sp_tk_0]
                rfl
              · rw [sp_left_0]
                show _ = q - sp_left (sp_free S) t (q - min q (sp_free S b))
                rw [hq1, sp_left_0]
                have := Nat.min_le_left q (sp_free S b)
                omega
            rw [← e4]
            exact e2
        · have hmf : min q (sp_free S b) = sp_free S b := by
            rcases Nat.le_total q (sp_free S b) with h9 | h9
            · rw [Nat.min_eq_left h9] at hq1
              omega
            · exact Nat.min_eq_right h9
          have hnd : b ∉ t := by
            have hs : sp_srt (sp_e S) (b :: t) := ht ▸ sp_ordk_srt
            exact fun z => (hs.1 b z).2 rfl
          have hfree : ∀ z, z ≠ b → sp_free (sp_take S p (fun x => if x = b then min q (sp_free S b) else 0) (min q (sp_free S b))) z = sp_free S z := fun z hz => by
            rw [sp_take_free, if_neg hz, Nat.sub_zero]
          have htl : sp_ord (sp_take S p (fun x => if x = b then min q (sp_free S b) else 0) (min q (sp_free S b))) p d = t :=
            sp_ordk_tail ht (fun i hi => sp_el_free rfl rfl (hfree i) (by rw [sp_take_free, if_pos rfl, hmf, Nat.sub_self]))
          rw [htl]
          obtain ⟨h', e1, e2, e3⟩ := ih n _ h2 (cost + min q (sp_free S b) * sp_b S b 3) (q - min q (sp_free S b)) hone hok1 htl (by simp at hn; omega) (by omega)
          have hzt : ∀ z, z ∈ t → sp_free (sp_take S p (fun x => if x = b then min q (sp_free S b) else 0) (min q (sp_free S b))) z = sp_free S z := fun z hz => hfree z (fun z9 => hnd (z9 ▸ hz))
          refine ⟨h', ?_, ?_, po_fx_trans hfr2 e3⟩
          · have e9 : sp_cost (sp_free (sp_take S p (fun x => if x = b then min q (sp_free S b) else 0) (min q (sp_free S b)))) (fun y => sp_b (sp_take S p (fun x => if x = b then min q (sp_free S b) else 0) (min q (sp_free S b))) y 3) t (q - min q (sp_free S b)) = sp_cost (sp_free S) (fun y => sp_b S y 3) t (q - min q (sp_free S b)) := sp_cost_eq (fun z hz => ⟨hzt z hz, rfl⟩)
            rw [e1, e9]
            show some (nI (cost + min q (sp_free S b) * sp_b S b 3 + _), h') = some (nI (cost + (min q (sp_free S b) * sp_b S b 3 + _)), h')
            rw [Nat.add_assoc]
          · rw [sp_left_eq hzt, show sp_tk (sp_free (sp_take S p (fun x => if x = b then min q (sp_free S b) else 0) (min q (sp_free S b)))) t (q - min q (sp_free S b)) = sp_tk (sp_free S) t (q - min q (sp_free S b)) from funext fun x => sp_tk_eq hzt] at e2
            have e4 := sp_take_take (S := S) (p := p) (t := fun x => if x = b then min q (sp_free S b) else 0) (t' := sp_tk (sp_free S) t (q - min q (sp_free S b))) (t'' := sp_tk (sp_free S) (b :: t) q) (q := min q (sp_free S b)) (q' := q - min q (sp_free S b) - sp_left (sp_free S) t (q - min q (sp_free S b))) (q'' := q - sp_left (sp_free S) (b :: t) q) (fun x => by
                show _ = (if x = b then min q (sp_free S b) else sp_tk (sp_free S) t (q - min q (sp_free S b)) x)
                by_cases hxb : x = b
                · rw [if_pos hxb, if_pos hxb, hxb, sp_tk_no hnd, Nat.add_zero]
                · rw [if_neg hxb, if_neg hxb, Nat.zero_add]) (by
                show _ = q - sp_left (sp_free S) t (q - min q (sp_free S b))
                have h8 := sp_left_le (f := sp_free S) (l := t) (q := q - min q (sp_free S b))
                have h9 := Nat.min_le_left q (sp_free S b)
                omega)
            rw [← e4]
            exact e2
      by_cases hc : sp_free S b < q
      · rw [if_pos (nI_lt hc hq)]
        exact turn (sp_free S b) (by rw [Nat.min_eq_right (by omega)])
      · rw [if_neg (nI_nlt (by omega) (by omega))]
        exact turn q (by rw [Nat.min_eq_left (by omega)])
theorem pm_takeOut (H : sm_S S 0 h) (ok : sp_ok S) {p d q : Nat} (hp : p < 8) (hd : d < 2 ^ 31) (hq : q < 2 ^ 31) :
    ∃ h', gX11_takeOut (nI p) (nI q) (nI d) h = some (nI (sp_cost (sp_free S) (fun b => sp_b S b 3) (sp_ord S p d) q), h') ∧ sm_S (sp_take S p (sp_tk (sp_free S) (sp_ord S p d) q) (q - sp_left (sp_free S) (sp_ord S p d) q)) 0 h' ∧ po_fx h h' := by
  unfold gX11_takeOut
  rw [pm_first H ok (by omega) hd]
  simp only [Option.bind_some]
  have h1 : (sp_ord S p d).length < mm_F := Nat.lt_of_le_of_lt sp_ordk_len (pc_nbF ok)
  obtain ⟨h', e1, e2, e3⟩ := pm_takeOut_L hp hd (sp_ord S p d) mm_F S h 0 q H ok rfl h1 hq
  rw [Nat.zero_add] at e1
  exact ⟨h', e1, e2, e3⟩
end PPG

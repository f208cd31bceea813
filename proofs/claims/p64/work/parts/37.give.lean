section PPH
/-! reservations take units: the reference's allocate -/
theorem sp_sum_one {n b m : Nat} (hb : b < n) : sp_sum (fun x => if x = b then m else 0) n = m := by
  have h1 := sp_sum_set (f := fun x => if x = b then m else 0) (g := fun _ => 0) (k := b) hb (fun i _ hi => if_neg hi)
  have h2 : sp_sum (fun _ => 0) n = 0 := sp_sum_zero (fun _ _ => rfl)
  rw [h2, if_pos rfl] at h1
  omega
theorem sp_give_held {S : sp_S} {r b : Nat} {t : Nat → Nat} (hr : r < sp_nr S) (h3 : sp_r S r 3 = 0) : sp_held (sp_give S r t) b = sp_held S b + t b := by
  have h1 := sp_sum_set (f := fun x => if sp_r S x 3 = 0 then (if x = r then sp_al S x b + t b else sp_al S x b) else 0) (g := fun x => if sp_r S x 3 = 0 then sp_al S x b else 0) (k := r) hr (fun i _ hi => by
    by_cases hc : sp_r S i 3 = 0
    · rw [if_pos hc, if_pos hc, if_neg hi]
    · rw [if_neg hc, if_neg hc])
  rw [if_pos h3, if_pos h3, if_pos rfl] at h1
  show sp_sum (fun x => if sp_r S x 3 = 0 then (if x = r then sp_al S x b + t b else sp_al S x b) else 0) (sp_nr S) = sp_sum (fun x => if sp_r S x 3 = 0 then sp_al S x b else 0) (sp_nr S) + t b
  omega
theorem sp_give_free {S : sp_S} {r b : Nat} {t : Nat → Nat} (hr : r < sp_nr S) (h3 : sp_r S r 3 = 0) : sp_free (sp_give S r t) b = sp_free S b - t b := by
  show sp_b S b 1 - sp_held (sp_give S r t) b = sp_b S b 1 - sp_held S b - t b
  rw [sp_give_held hr h3]
  omega
theorem sp_give_alls (S : sp_S) (r : Nat) (t : Nat → Nat) : sp_alls (sp_give S r t) r = sp_alls S r + sp_sum t (sp_nb S) := by
  show sp_sum (fun b => if r = r then sp_al S r b + t b else sp_al S r b) (sp_nb S) = sp_sum (fun b => sp_al S r b) (sp_nb S) + sp_sum t (sp_nb S)
  rw [← sp_sum_add]
  exact sp_sum_eq (fun i _ => if_pos rfl)
theorem sp_al_held {S : sp_S} {r b : Nat} (hr : r < sp_nr S) (h3 : sp_r S r 3 = 0) : sp_al S r b ≤ sp_held S b := by
  have h1 := sp_sum_at (f := fun x => if sp_r S x 3 = 0 then sp_al S x b else 0) hr
  rw [if_pos h3] at h1
  exact h1
theorem sp_give_ok {S : sp_S} (ok : sp_ok S) {r : Nat} {t : Nat → Nat} (hr : r < sp_nr S) (h3 : sp_r S r 3 = 0) (ht : ∀ b, b < sp_nb S → t b ≤ sp_free S b) (h0 : ∀ b, sp_nb S ≤ b → t b = 0) (hs : sp_sum t (sp_nb S) ≤ sp_r S r 1 - sp_alls S r) : sp_ok (sp_give S r t) := by
  refine ⟨ok.1, fun b hb => ?_, fun x hx => ?_⟩
  · obtain ⟨h1, h2, h4, h5, h6⟩ := ok.2.1 b hb
    have h7 := ht b hb
    refine ⟨h1, h2, h4, h5, ?_⟩
    show sp_held (sp_give S r t) b ≤ sp_b S b 1
    rw [sp_give_held hr h3]
    unfold sp_free at h7
    omega
  · obtain ⟨h1, h2, h4, h5, h6, h7⟩ := ok.2.2 x hx
    refine ⟨h1, h2, h4, h5, fun b hb => ?_, fun h9 => ?_⟩
    · show (if x = r then sp_al S x b + t b else sp_al S x b) ≤ 999 ∧ (sp_nb S ≤ b → (if x = r then sp_al S x b + t b else sp_al S x b) = 0)
      by_cases hxr : x = r
      · subst hxr
        rw [if_pos rfl]
        by_cases hbn : b < sp_nb S
        · have h8 := ht b hbn
          have h10 := sp_al_held (b := b) hr h3
          have h11 := ok.2.1 b hbn
          unfold sp_free at h8
          exact ⟨by omega, fun z => by omega⟩
        · have h8 := h0 b (by omega)
          have h10 := h6 b hb
          exact ⟨by omega, fun z => by have := h10.2 z; omega⟩
      · rw [if_neg hxr]
        exact h6 b hb
    · show sp_alls (sp_give S r t) x ≤ sp_r S x 1
      by_cases hxr : x = r
      · subst hxr
        rw [sp_give_alls]
        have := h7 h3
        omega
      · have e1 : sp_alls (sp_give S r t) x = sp_alls S x := sp_sum_eq (fun b _ => if_neg hxr)
        rw [e1]
        exact h7 h9
theorem sp_give_0 (S : sp_S) (r : Nat) : sp_give S r (fun _ => 0) = S := by
  obtain ⟨a, b, c, d, e⟩ := S
  unfold sp_give sp_al
  dsimp only
  have h1 : (fun (x v : Nat) => if x = r then d x v + 0 else d x v) = d := by
    funext x v
    split <;> rfl
  rw [h1]
theorem sp_give_give {S : sp_S} {r : Nat} {t t' t'' : Nat → Nat} (ht : ∀ b, t b + t' b = t'' b) : sp_give (sp_give S r t) r t' = sp_give S r t'' := by
  obtain ⟨a, b, c, d, e⟩ := S
  unfold sp_give sp_al
  dsimp only
  have h1 : (fun (x v : Nat) => if x = r then (if x = r then d x v + t v else d x v) + t' v else if x = r then d x v + t v else d x v) = (fun x v => if x = r then d x v + t'' v else d x v) := by
    funext x v
    have := ht v
    by_cases hx : x = r
    · rw [if_pos hx, if_pos hx, if_pos hx]; omega
    · rw [if_neg hx, if_neg hx, if_neg hx]
  rw [h1]
theorem sp_tk_sum {f : Nat → Nat} {n : Nat} : ∀ {l : List Nat} {q : Nat}, sp_srt (fun _ => 0) l → (∀ x, x ∈ l → x < n) → sp_sum (sp_tk f l q) n = q - sp_left f l q
  | [], q, _, _ => by
    show sp_sum (fun _ => 0) n = q - q
    rw [sp_sum_zero (fun _ _ => rfl), Nat.sub_self]
  | b :: t, q, hs, hm => by
    have hb := hm b List.mem_cons_self
    have h1 := sp_tk_sum (f := f) (n := n) (l := t) (q := q - min q (f b)) hs.2 (fun x hx => hm x (List.mem_cons_of_mem _ hx))
    have h2 := sp_sum_set (f := sp_tk f (b :: t) q) (g := sp_tk f t (q - min q (f b))) (k := b) hb (fun i _ hi => if_neg hi)
    have h3 : sp_tk f t (q - min q (f b)) b = 0 := sp_tk_no (fun z => (hs.1 b z).2 rfl)
    have h4 : sp_tk f (b :: t) q b = min q (f b) := if_pos rfl
    have h5 := sp_left_le (f := f) (l := t) (q := q - min q (f b))
    have h6 : sp_left f (b :: t) q = sp_left f t (q - min q (f b)) := rfl
    rw [h3, h4, h1] at h2
    rw [h6]
    have h7 := Nat.min_le_left q (f b)
    omega
theorem sp_srt_0 {e : Nat → Nat} : ∀ {l : List Nat}, sp_srt e l → sp_srt (fun _ => 0) l
  | [], _ => trivial
  | _ :: _, h => ⟨fun z hz => ⟨Nat.le_refl _, (h.1 z hz).2⟩, sp_srt_0 h.2⟩
variable {S : sp_S} {h : mm_H}
end PPH

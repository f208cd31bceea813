section PPG
/-! the reference takes from the first batch, again and again -/
def sp_hd : List Nat → Int32
  | [] => -1
  | b :: _ => nI b
theorem po_nm1 {b : Nat} (hb : b < 2 ^ 31) : ¬ nI b = -1 := by
  intro h
  have h1 := nI_pos hb
  rw [h] at h1
  exact h1 (by decide)
variable {S : sp_S} {h : mm_H}
/-! changes of a stock -/
def sp_take (S : sp_S) (p : Nat) (t : Nat → Nat) (q : Nat) : sp_S :=
  (S.1, (fun b v => if v = 1 then sp_b S b 1 - t b else sp_b S b v), S.2.2.1, S.2.2.2.1, (fun x w => if x = p ∧ w = 1 then sp_ac S x w + nI q else sp_ac S x w))
def sp_give (S : sp_S) (r : Nat) (t : Nat → Nat) : sp_S := (S.1, S.2.1, S.2.2.1, (fun x b => if x = r then sp_al S x b + t b else sp_al S x b), S.2.2.2.2)
theorem sp_take_free (S : sp_S) (p : Nat) (t : Nat → Nat) (q b : Nat) : sp_free (sp_take S p t q) b = sp_free S b - t b := by
  show (if 1 = 1 then sp_b S b 1 - t b else sp_b S b 1) - sp_held S b = sp_b S b 1 - sp_held S b - t b
  rw [if_pos rfl]
  omega
theorem sp_take_ok {S : sp_S} (ok : sp_ok S) {p q : Nat} {t : Nat → Nat} (ht : ∀ b, b < sp_nb S → t b ≤ sp_free S b) : sp_ok (sp_take S p t q) := by
  refine ⟨ok.1, fun b hb => ?_, ok.2.2⟩
  obtain ⟨h1, h2, h3, h4, h5⟩ := ok.2.1 b hb
  have h6 := ht b hb
  unfold sp_free at h6
  refine ⟨h1, ?_, h3, h4, ?_⟩
  · show (if 1 = 1 then sp_b S b 1 - t b else sp_b S b 1) ≤ 999
    rw [if_pos rfl]
    omega
  · show sp_held S b ≤ (if 1 = 1 then sp_b S b 1 - t b else sp_b S b 1)
    rw [if_pos rfl]
    omega
theorem sp_take_0 (S : sp_S) (p : Nat) : sp_take S p (fun _ => 0) 0 = S := by
  obtain ⟨a, b, c, d, e⟩ := S
  unfold sp_take sp_b sp_ac
  dsimp only
  have h1 : (fun (x v : Nat) => if v = 1 then b x 1 - 0 else b x v) = b := by
    funext x v
    by_cases hv : v = 1
    · rw [if_pos hv, hv]; rfl
    · rw [if_neg hv]
  have h2 : (fun (x w : Nat) => if x = p ∧ w = 1 then e x w + nI 0 else e x w) = e := by
    funext x w
    split
    · exact Int32.add_zero _
    · rfl
  rw [h1, h2]
theorem sp_take_take {S : sp_S} {p q q' q'' : Nat} {t t' t'' : Nat → Nat} (ht : ∀ b, t b + t' b = t'' b) (hq : q + q' = q'') : sp_take (sp_take S p t q) p t' q' = sp_take S p t'' q'' := by
  obtain ⟨a, b, c, d, e⟩ := S
  unfold sp_take sp_b sp_ac
  dsimp only
  have h1 : (fun (x v : Nat) => if v = 1 then (if 1 = 1 then b x 1 - t x else b x 1) - t' x else if v = 1 then b x 1 - t x else b x v) = (fun x v => if v = 1 then b x 1 - t'' x else b x v) := by
    funext x v
    have := ht x
    by_cases hv : v = 1
    · rw [if_pos hv, if_pos hv, if_pos rfl]; omega
    · rw [if_neg hv, if_neg hv, if_neg hv]
  have h2 : (fun (x w : Nat) => if x = p ∧ w = 1 then (if x = p ∧ w = 1 then e x w + nI q else e x w) + nI q' else if x = p ∧ w = 1 then e x w + nI q else e x w) = (fun x w => if x = p ∧ w = 1 then e x w + nI q'' else e x w) := by
    funext x w
    by_cases hv : x = p ∧ w = 1
    · rw [if_pos hv, if_pos hv, if_pos hv, Int32.add_assoc, nI_add, hq]
    · rw [if_neg hv, if_neg hv, if_neg hv]
  rw [h1, h2]
/-- the only array of stocks that the reference changes -/
def po_m353 (q : Nat) : Bool := q == 353
/-- cells of the array that belong to the catalog or to other blocks -/
def po_keep (k : Nat) : Bool := decide (420 ≤ k ∨ k = 1 ∨ (4 ≤ k ∧ k < 100 ∧ (k - 4) % 12 < 8))
theorem po_kp {k : Nat} (h : ¬ (420 ≤ k ∨ k = 1 ∨ (4 ≤ k ∧ k < 100 ∧ (k - 4) % 12 < 8))) : po_keep k = false := decide_eq_false h
def po_fx (h h' : mm_H) : Prop := po_fr po_m353 h h' ∧ ∀ k, po_keep k = true → mh_I h' 353 k = mh_I h 353 k
theorem po_fx_refl (h : mm_H) : po_fx h h := ⟨po_fr_refl h, fun _ _ => rfl⟩
theorem po_fx_trans {a b c : mm_H} (h1 : po_fx a b) (h2 : po_fx b c) : po_fx a c := ⟨po_fr_trans h1.1 h2.1, fun k hk => (h2.2 k hk).trans (h1.2 k hk)⟩
theorem po_fx_I {h : mm_H} {k : Nat} {v : Int32} (hk : po_keep k = false) : po_fx h (ms_I h 353 k v) := ⟨po_fr_I (by decide), fun j hj => po_I4 (fun z => by rw [z, hk] at hj; cases hj)⟩
theorem sp_left_le {f : Nat → Nat} : ∀ {l : List Nat} {q : Nat}, sp_left f l q ≤ q
  | [], _ => Nat.le_refl _
  | b :: t, q => by
    unfold sp_left
    have := sp_left_le (f := f) (l := t) (q := q - min q (f b))
    omega
theorem sp_el_free {S S' : sp_S} {p d b i : Nat} (h1 : sp_b S' i 0 = sp_b S i 0) (h2 : sp_b S' i 2 = sp_b S i 2) (h3 : i ≠ b → sp_free S' i = sp_free S i) (h4 : sp_free S' b = 0) : sp_el S' p d i = (sp_el S p d i && decide (i ≠ b)) := by
  unfold sp_el
  rw [h1, h2]
  by_cases hi : i = b
  · subst hi
    rw [h4]
    simp
  · rw [h3 hi]
    simp [hi]
theorem sp_min_comm {q f : Nat} : (if nI f < nI q then nI f else nI q) = nI (min q f) ∨ ¬ (q < 2 ^ 31 ∧ f < 2 ^ 31) := by
  by_cases h : q < 2 ^ 31 ∧ f < 2 ^ 31
  · left
    by_cases hc : f < q
    · rw [if_pos (nI_lt hc h.1), Nat.min_eq_right (by omega)]
    · rw [if_neg (nI_nlt (by omega) h.2), Nat.min_eq_left (by omega)]
  · exact Or.inr h
end PPG

section POZ
/-! the accounts agree with the stock, allocations lie in batches of their product: kept by every change -/
variable {S : sp_S}
def sp_acc (S : sp_S) : Prop := ∀ p, p < 8 → nI (sp_stock S p) = sp_told S p
def sp_alok (S : sp_S) : Prop := ∀ r, r < sp_nr S → ∀ b, b < sp_nb S → sp_al S r b ≠ 0 → sp_b S b 0 = sp_r S r 0
def sp_inv (S : sp_S) : Prop := sp_acc S ∧ sp_alok S
theorem sp_al1 (a b c d q : Int32) : (a + q) - b - c + d = (a - b - c + d) + q := by
  simp only [Int32.sub_eq_add_neg]
  ac_rfl
theorem sp_al2 (a b c d q : Int32) : a - (b + q) - c + d = (a - b - c + d) - q := by
  simp only [Int32.sub_eq_add_neg, Int32.neg_add]
  ac_rfl
theorem sp_al3 (a b c d q : Int32) : a - b - (c + q) + d = (a - b - c + d) - q := by
  simp only [Int32.sub_eq_add_neg, Int32.neg_add]
  ac_rfl
theorem sp_al4 (a b c d q : Int32) : a - b - c + (d + q) = (a - b - c + d) + q := by
  simp only [Int32.sub_eq_add_neg]
  ac_rfl
theorem sp_inv_0 : sp_inv sp_S0 := ⟨fun p _ => (show nI 0 = (0 : Int32) - 0 - 0 + 0 by decide), fun r hr => absurd hr (Nat.not_lt_zero r)⟩
theorem sp_inv_add (ok : sp_ok S) (I : sp_inv S) {p q e c : Nat} (hn : sp_nb S < 20) : sp_inv (sp_add S p q e c) := by
  refine ⟨fun x hx => ?_, fun r hr b hb h0 => ?_⟩
  · have e1 : sp_stock (sp_add S p q e c) x = sp_stock S x + (if p = x then q else 0) := by
      show sp_sum (fun b => if sp_b (sp_add S p q e c) b 0 = x then sp_b (sp_add S p q e c) b 1 else 0) (sp_nb S) + (if sp_b (sp_add S p q e c) (sp_nb S) 0 = x then sp_b (sp_add S p q e c) (sp_nb S) 1 else 0) = _
      have e3 : sp_b (sp_add S p q e c) (sp_nb S) 0 = p := if_pos rfl
      have e4 : sp_b (sp_add S p q e c) (sp_nb S) 1 = q := if_pos rfl
      have e5 : sp_sum (fun b => if sp_b (sp_add S p q e c) b 0 = x then sp_b (sp_add S p q e c) b 1 else 0) (sp_nb S) = sp_stock S x := sp_sum_eq (fun b hb => by
        have e6 : ∀ w, sp_b (sp_add S p q e c) b w = sp_b S b w := fun w => if_neg (Nat.ne_of_lt hb)
        rw [e6, e6])
      rw [e3, e4, e5]
    have e2 : sp_told (sp_add S p q e c) x = sp_told S x + (if p = x then nI q else 0) := by
      show (if x = p ∧ 0 = 0 then sp_ac S x 0 + nI q else sp_ac S x 0) - (if x = p ∧ 1 = 0 then sp_ac S x 1 + nI q else sp_ac S x 1) - (if x = p ∧ 2 = 0 then sp_ac S x 2 + nI q else sp_ac S x 2) + (if x = p ∧ 3 = 0 then sp_ac S x 3 + nI q else sp_ac S x 3) = _
      rw [if_neg (show ¬ (x = p ∧ 1 = 0) from fun z => absurd z.2 (by decide)), if_neg (show ¬ (x = p ∧ 2 = 0) from fun z => absurd z.2 (by decide)), if_neg (show ¬ (x = p ∧ 3 = 0) from fun z => absurd z.2 (by decide))]
      by_cases hp : p = x
      · rw [if_pos ⟨hp.symm, rfl⟩, if_pos hp, sp_al1]
        rfl
      · rw [if_neg (fun z => hp z.1.symm), if_neg hp, Int32.add_zero]
        rfl
    rw [e1, e2, ← nI_add, I.1 x hx]
    by_cases hp : p = x
    · rw [if_pos hp, if_pos hp]
    · rw [if_neg hp, if_neg hp]
      rfl
  · have hb' : b < sp_nb S + 1 := hb
    have h0' : sp_al S r b ≠ 0 := h0
    by_cases hbn : b = sp_nb S
    · rw [hbn] at h0'
      exact absurd ((ok.2.2 r hr).2.2.2.2.1 (sp_nb S) hn).2 (fun z => h0' (z (Nat.le_refl _)))
    · show (if b = sp_nb S then _ else sp_b S b 0) = sp_r S r 0
      rw [if_neg hbn]
      exact I.2 r hr b (by omega) h0'
theorem sp_stock_take {p q x : Nat} {t : Nat → Nat} (hp : ∀ b, b < sp_nb S → t b ≠ 0 → sp_b S b 0 = p) (hle : ∀ b, b < sp_nb S → t b ≤ sp_b S b 1) : sp_stock (sp_take S p t q) x + (if p = x then sp_sum t (sp_nb S) else 0) = sp_stock S x := by
  have e0 : sp_stock (sp_take S p t q) x = sp_sum (fun b => if sp_b S b 0 = x then sp_b S b 1 - t b else 0) (sp_nb S) := rfl
  have e1 : (if p = x then sp_sum t (sp_nb S) else 0) = sp_sum (fun b => if p = x then t b else 0) (sp_nb S) := by
    by_cases hx : p = x
    · rw [if_pos hx]
      exact sp_sum_eq (fun b _ => (if_pos hx).symm)
    · rw [if_neg hx]
      exact (sp_sum_zero (fun b _ => if_neg hx)).symm
  rw [e0, e1, ← sp_sum_add]
  refine sp_sum_eq (fun b hb => ?_)
  have h1 := hp b hb
  have h2 := hle b hb
  by_cases hx : p = x
  · rw [if_pos hx]
    by_cases hb0 : sp_b S b 0 = x
    · rw [if_pos hb0, if_pos hb0]
      omega
    · rw [if_neg hb0, if_neg hb0]
      by_cases ht : t b = 0
      · omega
      · exact absurd ((h1 ht).trans hx) hb0
  · rw [if_neg hx]
    by_cases hb0 : sp_b S b 0 = x
    · rw [if_pos hb0, if_pos hb0]
      by_cases ht : t b = 0
      · omega
      · exact absurd ((h1 ht).symm.trans hb0) hx
    · rw [if_neg hb0, if_neg hb0]
theorem sp_inv_take (I : sp_inv S) {p q : Nat} {t : Nat → Nat} (hp : ∀ b, b < sp_nb S → t b ≠ 0 → sp_b S b 0 = p) (hs : sp_sum t (sp_nb S) = q) (hle : ∀ b, b < sp_nb S → t b ≤ sp_b S b 1) : sp_inv (sp_take S p t q) := by
  refine ⟨fun x hx => ?_, fun r hr b hb h0 => I.2 r hr b hb h0⟩
  have e1 := sp_stock_take (q := q) (x := x) hp hle
  have e2 : sp_told (sp_take S p t q) x = sp_told S x - (if p = x then nI q else 0) := by
    show (if x = p ∧ 0 = 1 then sp_ac S x 0 + nI q else sp_ac S x 0) - (if x = p ∧ 1 = 1 then sp_ac S x 1 + nI q else sp_ac S x 1) - (if x = p ∧ 2 = 1 then sp_ac S x 2 + nI q else sp_ac S x 2) + (if x = p ∧ 3 = 1 then sp_ac S x 3 + nI q else sp_ac S x 3) = _
    rw [if_neg (show ¬ (x = p ∧ 0 = 1) from fun z => absurd z.2 (by decide)), if_neg (show ¬ (x = p ∧ 2 = 1) from fun z => absurd z.2 (by decide)), if_neg (show ¬ (x = p ∧ 3 = 1) from fun z => absurd z.2 (by decide))]
    by_cases hp : p = x
    · rw [if_pos ⟨hp.symm, rfl⟩, if_pos hp, sp_al2]
      rfl
    · rw [if_neg (fun z => hp z.1.symm), if_neg hp, Int32.sub_zero]
      rfl
  rw [hs] at e1
  rw [e2, ← I.1 x hx, ← e1]
  by_cases hp : p = x
  · rw [if_pos hp, if_pos hp, pk_sub (Nat.le_add_left _ _), Nat.add_sub_cancel]
  · rw [if_neg hp, if_neg hp, Int32.sub_zero, Nat.add_zero]
theorem sp_inv_give (I : sp_inv S) {r : Nat} {t : Nat → Nat} (hp : ∀ b, b < sp_nb S → t b ≠ 0 → sp_b S b 0 = sp_r S r 0) : sp_inv (sp_give S r t) := by
  refine ⟨I.1, fun r' hr' b hb h0 => ?_⟩
  have h1 : (if r' = r then sp_al S r' b + t b else sp_al S r' b) ≠ 0 := h0
  by_cases hrr : r' = r
  · rw [if_pos hrr] at h1
    by_cases ha : sp_al S r' b = 0
    · have := hp b hb (by omega)
      rw [hrr]
      exact this
    · exact I.2 r' hr' b hb ha
  · rw [if_neg hrr] at h1
    exact I.2 r' hr' b hb h1
theorem sp_inv_addr (I : sp_inv S) (p q d : Nat) : sp_inv (sp_addr S p q d) := by
  refine ⟨I.1, fun r hr b hb h0 => ?_⟩
  have hr' : r < sp_nr S + 1 := hr
  have h1 : (if r = sp_nr S then 0 else sp_al S r b) ≠ 0 := h0
  by_cases hrn : r = sp_nr S
  · rw [if_pos hrn] at h1
    exact absurd rfl h1
  · rw [if_neg hrn] at h1
    show sp_b S b 0 = (if r = sp_nr S then _ else sp_r S r 0)
    rw [if_neg hrn]
    exact I.2 r (by omega) b hb h1
theorem sp_inv_close (I : sp_inv S) (r st : Nat) : sp_inv (sp_close S r st) := ⟨I.1, fun r' hr' b hb h0 => (I.2 r' hr' b hb h0).trans (if_neg (fun z => absurd z.2 (by decide))).symm⟩
theorem sp_inv_adv (I : sp_inv S) (d : Nat) : sp_inv (sp_adv S d) := I
/-- one batch's units are others -/
theorem sp_stock_one {b c x : Nat} {S' : sp_S} (hb : b < sp_nb S) (hn : sp_nb S' = sp_nb S) (h0 : ∀ i, sp_b S' i 0 = sp_b S i 0) (h1 : ∀ i, sp_b S' i 1 = if i = b then c else sp_b S i 1) : sp_stock S' x + (if sp_b S b 0 = x then sp_b S b 1 else 0) = sp_stock S x + (if sp_b S b 0 = x then c else 0) := by
  have e : ∀ v, (if sp_b S b 0 = x then v else 0) = sp_sum (fun i => if i = b then (if sp_b S b 0 = x then v else 0) else 0) (sp_nb S) := fun v => (sp_sum_one hb).symm
  unfold sp_stock
  rw [hn, e (sp_b S b 1), e c, ← sp_sum_add, ← sp_sum_add]
  refine sp_sum_eq (fun i hi => ?_)
  rw [h0, h1]
  by_cases hib : i = b
  · rw [if_pos hib, if_pos hib, if_pos hib, hib]
    by_cases hx : sp_b S b 0 = x
    · rw [if_pos hx, if_pos hx]
      omega
    · rw [if_neg hx, if_neg hx]
  · rw [if_neg hib, if_neg hib, if_neg hib]
theorem sp_inv_cnt (I : sp_inv S) {b c : Nat} (hb : b < sp_nb S) : sp_inv (sp_cnt S b c) := by
  have g : ∀ i w, w ≠ 1 → sp_b (sp_cnt S b c) i w = sp_b S i w := fun i w hw => if_neg (fun z => hw z.2)
  have g1 : ∀ i, sp_b (sp_cnt S b c) i 1 = if i = b then c else sp_b S i 1 := fun i => by
    show (if i = b ∧ 1 = 1 then c else sp_b S i 1) = _
    by_cases hi : i = b
    · rw [if_pos ⟨hi, rfl⟩, if_pos hi]
    · rw [if_neg (fun z => hi z.1), if_neg hi]
  refine ⟨fun x hx => ?_, fun r hr y hy h0 => (g y 0 (by decide)).trans (I.2 r hr y hy h0)⟩
  have e1 := sp_stock_one (x := x) (S' := sp_cnt S b c) hb rfl (fun i => g i 0 (by decide)) g1
  have e2 : sp_told (sp_cnt S b c) x = sp_told S x + (if sp_b S b 0 = x then nI c - nI (sp_b S b 1) else 0) := by
    show (if x = sp_b S b 0 ∧ 0 = 3 then sp_ac S x 0 + (nI c - nI (sp_b S b 1)) else sp_ac S x 0) - (if x = sp_b S b 0 ∧ 1 = 3 then sp_ac S x 1 + (nI c - nI (sp_b S b 1)) else sp_ac S x 1) - (if x = sp_b S b 0 ∧ 2 = 3 then sp_ac S x 2 + (nI c - nI (sp_b S b 1)) else sp_ac S x 2) + (if x = sp_b S b 0 ∧ 3 = 3 then sp_ac S x 3 + (nI c - nI (sp_b S b 1)) else sp_ac S x 3) = _
    rw [if_neg (show ¬ (x = sp_b S b 0 ∧ 0 = 3) from fun z => absurd z.2 (by decide)), if_neg (show ¬ (x = sp_b S b 0 ∧ 1 = 3) from fun z => absurd z.2 (by decide)), if_neg (show ¬ (x = sp_b S b 0 ∧ 2 = 3) from fun z => absurd z.2 (by decide))]
    by_cases hp : sp_b S b 0 = x
    · rw [if_pos ⟨hp.symm, rfl⟩, if_pos hp, sp_al4]
      rfl
    · rw [if_neg (fun z => hp z.1.symm), if_neg hp, Int32.add_zero]
      rfl
  rw [e2, ← I.1 x hx]
  by_cases hp : sp_b S b 0 = x
  · rw [if_pos hp, if_pos hp] at e1
    rw [if_pos hp]
    have e3 : nI (sp_stock (sp_cnt S b c) x) + nI (sp_b S b 1) = nI (sp_stock S x) + nI c := by rw [nI_add, nI_add, e1]
    have e4 : nI (sp_stock (sp_cnt S b c) x) = (nI (sp_stock (sp_cnt S b c) x) + nI (sp_b S b 1)) - nI (sp_b S b 1) := (Int32.add_sub_cancel _ _).symm
    rw [e4, e3, Int32.sub_eq_add_neg, Int32.sub_eq_add_neg, Int32.add_assoc]
  · rw [if_neg hp, if_neg hp] at e1
    rw [if_neg hp, Int32.add_zero, show sp_stock (sp_cnt S b c) x = sp_stock S x by omega]
theorem sp_inv_wo1 (I : sp_inv S) {b : Nat} (hb : b < sp_nb S) : sp_inv (sp_wo1 S b) := by
  have g : ∀ i w, w ≠ 1 → sp_b (sp_wo1 S b) i w = sp_b S i w := fun i w hw => if_neg (fun z => hw z.2)
  have g1 : ∀ i, sp_b (sp_wo1 S b) i 1 = if i = b then 0 else sp_b S i 1 := fun i => by
    show (if i = b ∧ 1 = 1 then 0 else sp_b S i 1) = _
    by_cases hi : i = b
    · rw [if_pos ⟨hi, rfl⟩, if_pos hi]
    · rw [if_neg (fun z => hi z.1), if_neg hi]
  refine ⟨fun x hx => ?_, fun r hr y hy h0 => (g y 0 (by decide)).trans (I.2 r hr y hy (fun z => h0 ?_))⟩
  · have e1 := sp_stock_one (x := x) (S' := sp_wo1 S b) hb rfl (fun i => g i 0 (by decide)) g1
    have e2 : sp_told (sp_wo1 S b) x = sp_told S x - (if sp_b S b 0 = x then nI (sp_b S b 1) else 0) := by
      show (if x = sp_b S b 0 ∧ 0 = 2 then sp_ac S x 0 + nI (sp_b S b 1) else sp_ac S x 0) - (if x = sp_b S b 0 ∧ 1 = 2 then sp_ac S x 1 + nI (sp_b S b 1) else sp_ac S x 1) - (if x = sp_b S b 0 ∧ 2 = 2 then sp_ac S x 2 + nI (sp_b S b 1) else sp_ac S x 2) + (if x = sp_b S b 0 ∧ 3 = 2 then sp_ac S x 3 + nI (sp_b S b 1) else sp_ac S x 3) = _
      rw [if_neg (show ¬ (x = sp_b S b 0 ∧ 0 = 2) from fun z => absurd z.2 (by decide)), if_neg (show ¬ (x = sp_b S b 0 ∧ 1 = 2) from fun z => absurd z.2 (by decide)), if_neg (show ¬ (x = sp_b S b 0 ∧ 3 = 2) from fun z => absurd z.2 (by decide))]
      by_cases hp : sp_b S b 0 = x
      · rw [if_pos ⟨hp.symm, rfl⟩, if_pos hp, sp_al3]
        rfl
      · rw [if_neg (fun z => hp z.1.symm), if_neg hp, Int32.sub_zero]
        rfl
    rw [e2, ← I.1 x hx]
    by_cases hp : sp_b S b 0 = x
    · rw [if_pos hp, if_pos hp, Nat.add_zero] at e1
      rw [if_pos hp, ← e1, pk_sub (Nat.le_add_left _ _), Nat.add_sub_cancel]
    · rw [if_neg hp, if_neg hp] at e1
      rw [if_neg hp, Int32.sub_zero, show sp_stock (sp_wo1 S b) x = sp_stock S x by omega]
  · show (if y = b ∧ sp_r S r 3 = 0 then 0 else sp_al S r y) = 0
    rw [z, ite_self]
theorem sp_inv_wos (I : sp_inv S) : ∀ k, k ≤ sp_nb S → sp_inv (sp_wos S k)
  | 0, _ => I
  | k + 1, hk => by
    have ih := sp_inv_wos I k (by omega)
    rw [sp_wos]
    by_cases hd : sp_b S k 2 < sp_dy S
    · rw [if_pos hd]
      exact sp_inv_wo1 ih (by rw [sp_wos_nb]; omega)
    · rw [if_neg hd]
      exact ih
theorem sp_inv_wo (I : sp_inv S) : sp_inv (sp_wo S) := sp_inv_wos I _ (Nat.le_refl _)
theorem sp_tk_prod {p d q b : Nat} (h : sp_tk (sp_free S) (sp_ord S p d) q b ≠ 0) : sp_b S b 0 = p := by
  by_cases hm : b ∈ sp_ord S p d
  · exact (of_decide_eq_true (sp_ordk_mem.mp hm).2 : sp_b S b 0 = p ∧ d ≤ sp_b S b 2 ∧ 0 < sp_free S b).1
  · exact absurd (sp_tk_no hm) h
theorem sp_inv_issue (I : sp_inv S) {p q : Nat} (hq : q ≤ sp_av S p (sp_dy S)) : sp_inv (sp_issue S p q) := by
  refine sp_inv_take I (fun b _ h => sp_tk_prod h) ?_ (fun b _ => Nat.le_trans sp_tk_le (Nat.sub_le _ _))
  rw [sp_tk_sum (l := sp_ord S p (sp_dy S)) (sp_srt_0 (e := sp_e S) sp_ordk_srt) (fun x hx => (sp_ordk_mem.mp hx).1), sp_left_lsum, sp_lsum_av]
  omega
theorem sp_inv_refill (I : sp_inv S) (r : Nat) : sp_inv (sp_refill S r) := sp_inv_give I (fun b _ h => sp_tk_prod h)
theorem sp_inv_resrv (I : sp_inv S) (p q d : Nat) : sp_inv (sp_resrv S p q d) := sp_inv_refill (sp_inv_addr I p q d) _
theorem sp_inv_ship (ok : sp_ok S) (I : sp_inv S) {r : Nat} (hr : r < sp_nr S) (h3 : sp_r S r 3 = 0) : sp_inv (sp_ship S r) := sp_inv_close (sp_inv_take I (fun b hb h => I.2 r hr b hb h) rfl (fun b hb => Nat.le_trans (sp_al_held hr h3) (sp_held_le ok hb))) r 1
theorem sp_inv_inc {A : sp_A} (ok : sa_ok A) (I : sp_inv (sa_S A)) : sp_sum (fun p => if nI (sp_stock (sa_S A) p) = sp_told (sa_S A) p then 0 else 1) (sp_np (sa_C A)) = 0 := sp_sum_zero (fun p hp => if_pos (I.1 p (Nat.lt_of_lt_of_le hp ok.1.1.1)))
end POZ

section PPA
/-! numbers, rows, loops: what the pure part stands on -/
theorem po_ibd {i n : Nat} (hi : i < n) (hn : n < 2 ^ 31) : mm_ibd (nI i) n = true := decide_eq_true (nI_in hi hn)
theorem po_up1 {α : Type} {f : Nat → Nat → α} {o k : Nat} {v : α} : mm_up f o k v o k = v := if_pos ⟨rfl, rfl⟩
theorem po_up2 {α : Type} {f : Nat → Nat → α} {o k p j : Nat} {v : α} (h : ¬ (p = o ∧ j = k)) : mm_up f o k v p j = f p j := if_neg h
theorem po_II (h : mm_H) (o k : Nat) (v : Int32) : mh_I (ms_I h o k v) = mm_up (mh_I h) o k v := rfl
theorem po_I1 {h : mm_H} {o k : Nat} {v : Int32} : mh_I (ms_I h o k v) o k = v := if_pos ⟨rfl, rfl⟩
theorem po_I2 {h : mm_H} {o k p j : Nat} {v : Int32} (hn : ¬ (p = o ∧ j = k)) : mh_I (ms_I h o k v) p j = mh_I h p j := if_neg hn
theorem po_I3 {h : mm_H} {o k p j : Nat} {v : Int32} (hn : p ≠ o) : mh_I (ms_I h o k v) p j = mh_I h p j := if_neg (fun z => hn z.1)
theorem po_I4 {h : mm_H} {o k j : Nat} {v : Int32} (hn : j ≠ k) : mh_I (ms_I h o k v) o j = mh_I h o j := if_neg (fun z => hn z.2)
theorem po_get {o i : Nat} {h : mm_H} (hi : i < mm_cap o) (hc : mm_cap o < 60000) : gX4_get o (nI i) h = some (mh_I h (o + 1) i) := by
  unfold gX4_get
  rw [if_neg (nI_pos (by omega)), if_pos (nI_lt hi (by omega)), if_pos (po_ibd hi (by omega)), nI_clamp (by omega)]
theorem po_put {o i : Nat} {h : mm_H} {v : Int32} (hi : i < mm_cap o) (hc : mm_cap o < 60000) : gX4_put o (nI i) v h = some (ms_I h (o + 1) i v) := by
  unfold gX4_put
  rw [if_neg (nI_pos (by omega)), if_pos (nI_lt hi (by omega)), if_pos (po_ibd hi (by omega)), nI_clamp (by omega)]
  rfl
theorem po_add {o i : Nat} {h : mm_H} {v : Int32} (hi : i < mm_cap o) (hc : mm_cap o < 60000) : gX4_add o (nI i) v h = some (ms_I h (o + 1) i (mh_I h (o + 1) i + v)) := by
  unfold gX4_add
  rw [if_neg (nI_pos (by omega)), if_pos (nI_lt hi (by omega)), if_pos (po_ibd hi (by omega)), if_pos (po_ibd hi (by omega)), nI_clamp (by omega)]
  rfl
theorem po_cap7 {o : Nat} (hk : mm_kd o = (0, 7)) : (mm_cap (o + 1) = 20 ∧ mm_cap (o + 3) = 20 ∧ mm_cap (o + 5) = 20 ∧ mm_cap (o + 7) = 20 ∧ mm_cap (o + 9) = 20) ∧ (mm_cap (o + 11) = 10 ∧ mm_cap (o + 13) = 10 ∧ mm_cap (o + 15) = 10 ∧ mm_cap (o + 17) = 10 ∧ mm_cap (o + 19) = 200) ∧ (mm_cap (o + 21) = 8 ∧ mm_cap (o + 23) = 8 ∧ mm_cap (o + 25) = 8 ∧ mm_cap (o + 27) = 8 ∧ mm_cap (o + 29) = 8) := by
  have h9 : ∀ o, o < 352 → mm_kd o = (0, 7) → (mm_cap (o + 1) = 20 ∧ mm_cap (o + 3) = 20 ∧ mm_cap (o + 5) = 20 ∧ mm_cap (o + 7) = 20 ∧ mm_cap (o + 9) = 20) ∧ (mm_cap (o + 11) = 10 ∧ mm_cap (o + 13) = 10 ∧ mm_cap (o + 15) = 10 ∧ mm_cap (o + 17) = 10 ∧ mm_cap (o + 19) = 200) ∧ (mm_cap (o + 21) = 8 ∧ mm_cap (o + 23) = 8 ∧ mm_cap (o + 25) = 8 ∧ mm_cap (o + 27) = 8 ∧ mm_cap (o + 29) = 8) := by decide +kernel
  exact h9 o (mm_kd_lt hk (by decide)) hk
/-- sums -/
def sp_sum (f : Nat → Nat) : Nat → Nat
  | 0 => 0
  | n + 1 => sp_sum f n + f n
theorem sp_sum_eq {f g : Nat → Nat} : ∀ {n : Nat}, (∀ i, i < n → f i = g i) → sp_sum f n = sp_sum g n
  | 0, _ => rfl
  | n + 1, h => by
    show sp_sum f n + f n = sp_sum g n + g n
    rw [sp_sum_eq (n := n) (fun i hi => h i (by omega)), h n (by omega)]
theorem sp_sum_le {f : Nat → Nat} {c : Nat} : ∀ {n : Nat}, (∀ i, i < n → f i ≤ c) → sp_sum f n ≤ n * c
  | 0, _ => Nat.zero_le _
  | n + 1, h => by
    show sp_sum f n + f n ≤ _
    have h1 := sp_sum_le (n := n) (fun i hi => h i (Nat.lt_succ_of_lt hi))
    have h2 := h n (Nat.lt_succ_self n)
    rw [Nat.succ_mul]
    omega
theorem sp_sum_mono {f g : Nat → Nat} : ∀ {n : Nat}, (∀ i, i < n → f i ≤ g i) → sp_sum f n ≤ sp_sum g n
  | 0, _ => Nat.le_refl _
  | n + 1, h => by
    show sp_sum f n + f n ≤ sp_sum g n + g n
    exact Nat.add_le_add (sp_sum_mono (n := n) (fun i hi => h i (Nat.lt_succ_of_lt hi))) (h n (Nat.lt_succ_self n))
theorem sp_sum_zero {f : Nat → Nat} : ∀ {n : Nat}, (∀ i, i < n → f i = 0) → sp_sum f n = 0
  | 0, _ => rfl
  | n + 1, h => by
    show sp_sum f n + f n = 0
    rw [sp_sum_zero (n := n) (fun i hi => h i (by omega)), h n (by omega)]
theorem sp_sum_at {f : Nat → Nat} {k : Nat} : ∀ {n : Nat}, k < n → f k ≤ sp_sum f n
  | 0, h => by omega
  | n + 1, h => by
    show f k ≤ sp_sum f n + f n
    rcases Nat.lt_or_ge k n with h1 | h1
    · have := sp_sum_at (f := f) (n := n) h1
      omega
    · have : k = n := by omega
      subst this
      omega
/-- one term changed -/
theorem sp_sum_set {f g : Nat → Nat} {k : Nat} : ∀ {n : Nat}, k < n → (∀ i, i < n → i ≠ k → f i = g i) → sp_sum f n + g k = sp_sum g n + f k
  | 0, h, _ => by omega
  | n + 1, h, he => by
    show sp_sum f n + f n + g k = sp_sum g n + g n + f k
    rcases Nat.lt_or_ge k n with h1 | h1
    · have h2 := sp_sum_set (n := n) h1 (fun i hi hk => he i (by omega) hk)
      have h3 := he n (by omega) (by omega)
      omega
    · have h2 : k = n := by omega
      subst h2
      rw [sp_sum_eq (n := k) (fun i hi => he i (by omega) (by omega))]
      omega
theorem sp_sum_add {f g : Nat → Nat} : ∀ {n : Nat}, sp_sum (fun i => f i + g i) n = sp_sum f n + sp_sum g n
  | 0 => rfl
  | n + 1 => by
    show sp_sum (fun i => f i + g i) n + (f n + g n) = sp_sum f n + f n + (sp_sum g n + g n)
    rw [sp_sum_add (n := n)]
    omega
/-- a loop that counts from i to e -/
theorem po_loop {σ α : Type} (L : Nat → Nat → σ → Option α) (e : Nat) (I : Nat → σ → Prop) (Q : α → Prop) (hx : ∀ n s, I e s → ∃ a, L (n + 1) e s = some a ∧ Q a)
    (hs : ∀ n i s, i < e → I i s → ∃ s', I (i + 1) s' ∧ L (n + 1) i s = L n (i + 1) s') : ∀ n i s, i ≤ e → e - i < n → I i s → ∃ a, L n i s = some a ∧ Q a :=
  loop_i (fun n i s => ∃ a, L n i s = some a ∧ Q a) I e hx (fun n i s hi hI k => by
    obtain ⟨s', h1, h2⟩ := hs n i s hi hI
    rw [h2]
    exact k s' h1)
/-- a loop whose state is what a function says -/
theorem po_loopF {σ α : Type} (L : Nat → Nat → σ → Option α) (e : Nat) (st : Nat → σ) (r : α) (hx : ∀ n, L (n + 1) e (st e) = some r)
    (hs : ∀ n i, i < e → L (n + 1) i (st i) = L n (i + 1) (st (i + 1))) : ∀ n i, i ≤ e → e - i < n → L n i (st i) = some r := by
  intro n
  induction n with
  | zero => intro i _ h; omega
  | succ n ih =>
    intro i h1 h2
    rcases Nat.lt_or_ge i e with h3 | h3
    · rw [hs n i h3]
      exact ih (i + 1) (by omega) (by omega)
    · have h4 : i = e := by omega
      subst h4
      exact hx n
theorem po_0lt {b : Nat} (h : 0 < b) (hb : b < 2 ^ 31) : (0 : Int32) < nI b := nI_lt (a := 0) h hb
theorem po_n0lt {b : Nat} (h : ¬ 0 < b) : ¬ (0 : Int32) < nI b := nI_nlt (a := 0) (by omega) (by decide)
theorem po_F (k : Nat) (h : k < 100000) : k < mm_F := h
theorem po_if {α : Type} {c : Prop} {_ : Decidable c} {a b : α} {P : α → Prop} (h1 : c → P a) (h2 : ¬ c → P b) : P (if c then a else b) := by
  by_cases h : c
  · rw [if_pos h]; exact h1 h
  · rw [if_neg h]; exact h2 h
theorem po_maxN {a b : Nat} (ha : a < 2 ^ 31) (hb : b < 2 ^ 31) : mm_max (nI a) (nI b) = nI (max a b) := by
  unfold mm_max
  by_cases h : a < b
  · rw [if_pos (nI_lt h hb), Nat.max_eq_right (by omega)]
  · rw [if_neg (nI_nlt (by omega) ha), Nat.max_eq_left (by omega)]
theorem po_minN {a b : Nat} (ha : a < 2 ^ 31) (hb : b < 2 ^ 31) : mm_min (nI a) (nI b) = nI (min a b) := by
  unfold mm_min
  by_cases h : b < a
  · rw [if_pos (nI_lt h ha), Nat.min_eq_right (by omega)]
  · rw [if_neg (nI_nlt (by omega) hb), Nat.min_eq_left (by omega)]
theorem po_ite {a b : Nat} {c d : Prop} {_ : Decidable c} {_ : Decidable d} (h : c ↔ d) : (if c then nI a else nI b) = nI (if d then a else b) := by
  by_cases hc : c
  · rw [if_pos hc, if_pos (h.mp hc)]
  · rw [if_neg hc, if_neg (fun z => hc (h.mpr z))]
end PPA

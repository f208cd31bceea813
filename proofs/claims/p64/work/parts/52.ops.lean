section PPX
/-! calls: what both sides check first -/
def po_out (x : Int32) (n : Nat) : Prop := x < 0 ∨ ¬ x < nI n
theorem po_cs (x : Int32) {n : Nat} (hn : n < 2 ^ 31) : (∃ p, p < n ∧ x = nI p) ∨ po_out x n := by
  rcases pk_ix x hn with h | h | ⟨j, h1, h2⟩
  · exact Or.inr (Or.inl h)
  · exact Or.inr (Or.inr (Int32.not_lt.mpr h))
  · exact Or.inl ⟨j, h1, h2⟩
/-- a number out of a range -/
def po_no (x : Int32) (a b : Nat) : Prop := x < nI a ∨ nI b < x
theorem po_cr (x : Int32) {a b : Nat} (hb : b + 1 < 2 ^ 31) (hab : a ≤ b + 1) : (∃ q, a ≤ q ∧ q ≤ b ∧ x = nI q) ∨ po_no x a b := by
  rcases pk_ix x hb with h | h | ⟨j, h1, h2⟩
  · refine Or.inr (Or.inl ?_)
    rcases Nat.eq_zero_or_pos a with h0 | h0
    · rw [h0]
      exact h
    · exact Int32.lt_trans h (po_0lt h0 (by omega))
  · exact Or.inr (Or.inr (Int32.lt_of_lt_of_le (nI_lt (Nat.lt_succ_self b) hb) h))
  · rcases Nat.lt_or_ge j a with h3 | h3
    · subst h2
      exact Or.inr (Or.inl (nI_lt h3 (by omega)))
    · exact Or.inl ⟨j, h3, by omega, h2⟩
theorem po_outside_in {x y z : Int32} {a b q : Nat} {h : mm_H} (ha : a ≤ q) (hb : q ≤ b) (hb2 : b < 2 ^ 31) (hx : x = nI q) (hy : y = nI a) (hz : z = nI b) : gX10_isOutside x y z h = some false := by
  unfold gX10_isOutside
  rw [hx, hy, hz, if_neg (nI_nlt ha (by omega)), if_neg (nI_nlt hb hb2)]
theorem po_outside_no {x y z : Int32} {a b : Nat} {h : mm_H} (hn : po_no x a b) (hy : y = nI a) (hz : z = nI b) : gX10_isOutside x y z h = some true := by
  unfold gX10_isOutside
  rw [hy, hz]
  rcases hn with h1 | h1
  · rw [if_pos h1]
  · by_cases h2 : x < nI a
    · rw [if_pos h2]
    · rw [if_neg h2, if_pos h1]
/-- an index against a count -/
theorem po_outside_ix {j n : Nat} {h : mm_H} (hj : j < n) (hn : n < 2 ^ 31) : gX10_isOutside (nI j) 0 (nI n - 1) h = some false := by
  obtain ⟨m, rfl⟩ : ∃ m, n = m + 1 := ⟨n - 1, by omega⟩
  exact po_outside_in (a := 0) (b := m) (Nat.zero_le _) (by omega) (by omega) rfl rfl (nI_pred m)
theorem po_ix_no {x : Int32} {n : Nat} (hn : n < 2 ^ 31) (ho : po_out x n) : x < 0 ∨ nI n - 1 < x := by
  rcases ho with h1 | h1
  · exact Or.inl h1
  · by_cases h0 : x < 0
    · exact Or.inl h0
    · refine Or.inr ?_
      cases n with
      | zero => exact Int32.lt_of_lt_of_le (show nI 0 - 1 < 0 by decide) (Int32.not_lt.mp h0)
      | succ m =>
        rw [nI_pred]
        exact Int32.lt_of_lt_of_le (nI_lt (Nat.lt_succ_self m) hn) (Int32.not_lt.mp h1)
theorem po_outside_out {x : Int32} {n : Nat} {h : mm_H} (hn : n < 2 ^ 31) (ho : po_out x n) : gX10_isOutside x 0 (nI n - 1) h = some true := by
  unfold gX10_isOutside
  rcases po_ix_no hn ho with h1 | h1
  · rw [if_pos h1]
  · by_cases h2 : x < 0
    · rw [if_pos h2]
    · rw [if_neg h2, if_pos h1]
variable {A : sp_A} {h : mm_H}
abbrev po_IO : String := "java/lang/IndexOutOfBoundsException"
abbrev po_IA : String := "java/lang/IllegalArgumentException"
abbrev po_IS : String := "java/lang/IllegalStateException"
theorem pc_ckP (H : ra_c A h) (ok : sa_ok A) {p : Nat} (hp : p < sp_np (sa_C A)) : gX10_checkProduct (nI p) h = some (.inl (), h) := by
  unfold gX10_checkProduct gX1_hasProduct
  have h8 := ok.1.1.1
  rw [H.1.1.1, if_neg (nI_pos (by omega)), if_pos (nI_lt hp (by omega)), Option.bind_some, if_pos rfl]
theorem pc_ckPn (H : ra_c A h) {x : Int32} (hx : po_out x (sp_np (sa_C A))) : gX10_checkProduct x h = some (.inr po_IO, ms_X h) := by
  unfold gX10_checkProduct gX1_hasProduct
  rw [H.1.1.1]
  by_cases h1 : x < 0
  · rw [if_pos h1, Option.bind_some, if_neg (by decide)]
  · rw [if_neg h1, if_neg (hx.resolve_left h1), Option.bind_some, if_neg (by decide)]
theorem pc_ckB (H : ra_c A h) (ok : sa_ok A) {b : Nat} (hb : b < sp_nb (sa_S A)) : gX10_checkBatch (nI b) h = some (.inl (), h) := by
  unfold gX10_checkBatch gX7_hasBatch
  have h8 := ok.1.2.1.2.1
  rw [H.1.2.1.2.1, if_neg (nI_pos (by omega)), if_pos (nI_lt hb (by omega)), Option.bind_some, if_pos rfl]
theorem pc_ckBn (H : ra_c A h) {x : Int32} (hx : po_out x (sp_nb (sa_S A))) : gX10_checkBatch x h = some (.inr po_IO, ms_X h) := by
  unfold gX10_checkBatch gX7_hasBatch
  rw [H.1.2.1.2.1]
  by_cases h1 : x < 0
  · rw [if_pos h1, Option.bind_some, if_neg (by decide)]
  · rw [if_neg h1, if_neg (hx.resolve_left h1), Option.bind_some, if_neg (by decide)]
theorem pc_ckR (H : ra_c A h) (ok : sa_ok A) {r : Nat} (hr : r < sp_nr (sa_S A)) : gX10_checkReservation (nI r) h = some (.inl (), h) := by
  unfold gX10_checkReservation gX7_hasReservation
  have h8 := ok.1.2.1.2.2
  rw [H.1.2.1.2.2, if_neg (nI_pos (by omega)), if_pos (nI_lt hr (by omega)), Option.bind_some, if_pos rfl]
theorem pc_ckRn (H : ra_c A h) {x : Int32} (hx : po_out x (sp_nr (sa_S A))) : gX10_checkReservation x h = some (.inr po_IO, ms_X h) := by
  unfold gX10_checkReservation gX7_hasReservation
  rw [H.1.2.1.2.2]
  by_cases h1 : x < 0
  · rw [if_pos h1, Option.bind_some, if_neg (by decide)]
  · rw [if_neg h1, if_neg (hx.resolve_left h1), Option.bind_some, if_neg (by decide)]
theorem pc_ckI {x y z : Int32} {a b q : Nat} (ha : a ≤ q) (hb : q ≤ b) (hb2 : b < 2 ^ 31) (hx : x = nI q) (hy : y = nI a) (hz : z = nI b) : gX10_checkRange x y z h = some (.inl (), h) := by
  unfold gX10_checkRange
  rw [po_outside_in ha hb hb2 hx hy hz, Option.bind_some, if_neg (by decide)]
theorem pc_ckIn {x y z : Int32} {a b : Nat} (hn : po_no x a b) (hy : y = nI a) (hz : z = nI b) : gX10_checkRange x y z h = some (.inr po_IA, ms_X h) := by
  unfold gX10_checkRange
  rw [po_outside_no hn hy hz, Option.bind_some, if_pos rfl]
/-! what a call does -/
section
variable {β : Type}
def op_c (G : mm_H → Option ((β ⊕ String) × mm_H)) (A : sp_A) (v : β) (A' : sp_A) : Prop := ∀ h, ra_c A h → ∃ h1, G h = some (.inl v, h1) ∧ ra_c A' h1 ∧ po_fr po_fc h h1
def op_x (G : mm_H → Option ((β ⊕ String) × mm_H)) (A : sp_A) (E : String) (A' : sp_A) : Prop := ∀ h, ra_c A h → ∃ h1, G h = some (.inr E, ms_X h1) ∧ ra_c A' h1 ∧ po_fr po_fc h h1
theorem po_fm9 {v : Int32} : po_fr po_fm h (ms_I h 352 9 v) := po_fr_I (by decide)
variable {c : String → Option Int32} {G : mm_H → Option ((β ⊕ String) × mm_H)} {M : mm_H → Option (β × mm_H)}
theorem po_od_no {q : Nat} (hq : q < 347 ∨ 352 ≤ q) : po_od q = false := by
  unfold po_od
  have a1 : (q == 347) = false := by simp; omega
  have a2 : (q == 349) = false := by simp; omega
  have a3 : (q == 351) = false := by simp; omega
  rw [a1, a2, a3]
  rfl
theorem po_fc_no {q : Nat} (h : po_fc q = false) : 352 ≤ q := by
  have hq' : ¬ q < 352 := of_decide_eq_false h
  omega
end
end PPX

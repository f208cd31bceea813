section PPB
/-! the numbers behind both sides: a stock is ((day, batches, reservations), batch fields, reservation fields, allocations, accounts)
    batch fields: 0 product, 1 units, 2 expiry, 3 cost; reservation fields: 0 product, 1 units, 2 shipping day, 3 state; accounts: 0 received, 1 delivered, 2 written off, 3 adjusted -/
abbrev sp_S : Type := (Nat × Nat × Nat) × (Nat → Nat → Nat) × (Nat → Nat → Nat) × (Nat → Nat → Nat) × (Nat → Nat → Int32)
def sp_dy (S : sp_S) : Nat := S.1.1
def sp_nb (S : sp_S) : Nat := S.1.2.1
def sp_nr (S : sp_S) : Nat := S.1.2.2
def sp_b (S : sp_S) : Nat → Nat → Nat := S.2.1
def sp_r (S : sp_S) : Nat → Nat → Nat := S.2.2.1
def sp_al (S : sp_S) : Nat → Nat → Nat := S.2.2.2.1
def sp_ac (S : sp_S) : Nat → Nat → Int32 := S.2.2.2.2
/-- units of a batch that open reservations hold -/
def sp_held (S : sp_S) (b : Nat) : Nat := sp_sum (fun r => if sp_r S r 3 = 0 then sp_al S r b else 0) (sp_nr S)
def sp_free (S : sp_S) (b : Nat) : Nat := sp_b S b 1 - sp_held S b
/-- units of a reservation in all batches -/
def sp_alls (S : sp_S) (r : Nat) : Nat := sp_sum (fun b => sp_al S r b) (sp_nb S)
/-- a stock as calls leave it -/
def sp_ok (S : sp_S) : Prop := (sp_dy S ≤ 20000 ∧ sp_nb S ≤ 20 ∧ sp_nr S ≤ 10) ∧ (∀ b, b < sp_nb S → sp_b S b 0 < 8 ∧ sp_b S b 1 ≤ 999 ∧ sp_b S b 2 ≤ 9999 ∧ sp_b S b 3 ≤ 999 ∧ sp_held S b ≤ sp_b S b 1) ∧
  (∀ r, r < sp_nr S → sp_r S r 0 < 8 ∧ sp_r S r 1 ≤ 9999 ∧ sp_r S r 2 ≤ 9999 ∧ sp_r S r 3 ≤ 2 ∧ (∀ b, b < 20 → sp_al S r b ≤ 999 ∧ (sp_nb S ≤ b → sp_al S r b = 0)) ∧ (sp_r S r 3 = 0 → sp_alls S r ≤ sp_r S r 1))
/-- the class's Stock o holds S -/
def sc_S (S : sp_S) (o : Nat) (h : mm_H) : Prop := (mh_I h o 0 = nI (sp_dy S) ∧ mh_I h o 1 = nI (sp_nb S) ∧ mh_I h o 7 = nI (sp_nr S)) ∧
  (∀ b, b < sp_nb S → mh_I h (o + 2) b = nI (sp_b S b 0) ∧ mh_I h (o + 4) b = nI (sp_b S b 1) ∧ mh_I h (o + 6) b = nI (sp_held S b) ∧ mh_I h (o + 8) b = nI (sp_b S b 2) ∧ mh_I h (o + 10) b = nI (sp_b S b 3)) ∧
  (∀ r, r < sp_nr S → mh_I h (o + 12) r = nI (sp_r S r 0) ∧ mh_I h (o + 14) r = nI (sp_r S r 1) ∧ mh_I h (o + 16) r = nI (sp_r S r 2) ∧ mh_I h (o + 18) r = nI (sp_r S r 3) ∧ ∀ b, b < 20 → mh_I h (o + 20) (20 * r + b) = nI (sp_al S r b)) ∧
  (∀ p, p < 8 → mh_I h (o + 22) p = sp_ac S p 0 ∧ mh_I h (o + 24) p + mh_I h (o + 26) p = sp_ac S p 1 ∧ mh_I h (o + 28) p = sp_ac S p 2 ∧ mh_I h (o + 30) p = sp_ac S p 3)
/-! questions -/
def sp_stock (S : sp_S) (p : Nat) : Nat := sp_sum (fun b => if sp_b S b 0 = p then sp_b S b 1 else 0) (sp_nb S)
def sp_resv (S : sp_S) (p : Nat) : Nat := sp_sum (fun b => if sp_b S b 0 = p then sp_held S b else 0) (sp_nb S)
def sp_av (S : sp_S) (p d : Nat) : Nat := sp_sum (fun b => if sp_b S b 0 = p ∧ d ≤ sp_b S b 2 then sp_free S b else 0) (sp_nb S)
def sp_btw (S : sp_S) (p d e : Nat) : Nat := sp_sum (fun b => if sp_b S b 0 = p ∧ d ≤ sp_b S b 2 ∧ sp_b S b 2 < e then sp_b S b 1 else 0) (sp_nb S)
def sp_worth (S : sp_S) (p : Nat) : Nat := sp_sum (fun b => if sp_b S b 0 = p then sp_b S b 1 * sp_b S b 3 else 0) (sp_nb S)
/-- a reservation has units in a batch that expires before the day -/
def sp_holds (S : sp_S) (r d : Nat) : Bool := (List.range (sp_nb S)).any (fun b => decide (0 < sp_al S r b ∧ sp_b S b 2 < d))
def sp_lack (S : sp_S) (r : Nat) : Nat := if sp_r S r 3 = 0 then sp_r S r 1 - sp_alls S r else 0
def sp_why (S : sp_S) (r : Nat) : Nat := if sp_r S r 3 = 0 then (if 0 < sp_lack S r then 2 else if sp_holds S r (sp_dy S) = true then 3 else 0) else 1
def sp_endg (S : sp_S) (r : Nat) : Bool := decide (sp_r S r 3 = 0) && sp_holds S r (max (sp_r S r 2) (sp_dy S))
theorem sp_held_le {S : sp_S} (ok : sp_ok S) {b : Nat} (hb : b < sp_nb S) : sp_held S b ≤ sp_b S b 1 := (ok.2.1 b hb).2.2.2.2
theorem sp_free_le {S : sp_S} (ok : sp_ok S) {b : Nat} (hb : b < sp_nb S) : sp_free S b ≤ 999 := by
  have h1 := (ok.2.1 b hb).2.1
  unfold sp_free
  omega
theorem sp_alls_le {S : sp_S} (ok : sp_ok S) {r : Nat} (hr : r < sp_nr S) : sp_alls S r ≤ 19980 := by
  have h1 : sp_alls S r ≤ sp_nb S * 999 := sp_sum_le (fun b hb => ((ok.2.2 r hr).2.2.2.2.1 b (Nat.lt_of_lt_of_le hb ok.1.2.1)).1)
  have h2 := ok.1.2.1
  omega
theorem sp_sum999 {S : sp_S} (ok : sp_ok S) {f : Nat → Nat} (hf : ∀ b, b < sp_nb S → f b ≤ 999) {i : Nat} (hi : i ≤ sp_nb S) : sp_sum f i ≤ 19980 := by
  have h1 : sp_sum f i ≤ i * 999 := sp_sum_le (fun b hb => hf b (Nat.lt_of_lt_of_le hb hi))
  have h2 := ok.1.2.1
  omega
end PPB

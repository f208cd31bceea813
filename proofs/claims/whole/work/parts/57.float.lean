section PQC
/-! no NaN in a quotient of whole numbers -/
theorem fl_inf (s : Bool) (f : FP.Core.Fmt) : FP.Core.encode f (.inf s) = FP.Core.assemble f s (f.exps - 1) 0 := rfl
/-- a datum that is no NaN and fits -/
def fl_good (f : FP.Core.Fmt) : FP.Core.Datum → Prop
  | .nan => False
  | .inf _ => True
  | .fin _ c q => c < 2 ^ f.p ∧ q ≤ f.qmax
theorem fl_bound {f : FP.Core.Fmt} {s : Bool} {c : Nat} {q : Int} (hc : c < 2 ^ f.p) : fl_good f (FP.Core.bound f s c q) := by
  unfold FP.Core.bound
  by_cases h : q ≤ f.qmax
  · rw [if_pos h]
    exact ⟨hc, h⟩
  · rw [if_neg h]
    trivial
theorem fl_settle {f : FP.Core.Fmt} {s : Bool} {c : Nat} {q : Int} (hT : f.tails < 2 ^ f.p) : fl_good f (FP.Core.settle f s c q) := by
  unfold FP.Core.settle
  by_cases h : c < 2 ^ f.p
  · rw [if_pos h]
    exact fl_bound h
  · rw [if_neg h]
    exact fl_bound hT
theorem fl_ratio {f : FP.Core.Fmt} {s : Bool} {n d : Nat} {e : Int} (hT : f.tails < 2 ^ f.p) (hq : f.qmin ≤ f.qmax) : fl_good f (FP.Core.roundRatio f s n d e) := by
  unfold FP.Core.roundRatio
  by_cases h : n = 0
  · rw [if_pos h]
    exact ⟨Nat.two_pow_pos _, hq⟩
  · rw [if_neg h]
    exact fl_settle hT
theorem fl_quot {f : FP.Core.Fmt} {s t : Bool} {c d : Nat} {q r : Int} (hT : f.tails < 2 ^ f.p) (hq : f.qmin ≤ f.qmax) (hd : ¬ d = 0) : fl_good f (FP.Core.quotient f (.fin s c q) (.fin t d r)) := by
  show fl_good f (if d = 0 then (if c = 0 then .nan else .inf (s != t)) else FP.Core.roundRatio f (s != t) c d (q - r))
  rw [if_neg hd]
  exact fl_ratio hT hq
/-- the fields of what is written -/
theorem fl_enc {f : FP.Core.Fmt} {d : FP.Core.Datum} (hg : fl_good f d) (h2 : 2 ^ f.p = 2 * f.tails) (hT : 0 < f.tails) (hE : f.qmax - f.qmin + 2 < (f.exps : Int)) (hX : 2 < f.exps) : ∃ s e t, FP.Core.encode f d = FP.Core.assemble f s e t ∧ t < f.tails ∧ e < f.exps ∧ (e = f.exps - 1 → t = 0) := by
  cases d with
  | nan => exact hg.elim
  | inf s => exact ⟨s, f.exps - 1, 0, rfl, hT, by omega, fun _ => rfl⟩
  | fin s c q =>
    obtain ⟨h3, h4⟩ := hg
    show ∃ s' e t, (if c < f.tails then FP.Core.assemble f s 0 c else FP.Core.assemble f s ((q - f.qmin).toNat + 1) (c - f.tails)) = FP.Core.assemble f s' e t ∧ _
    by_cases h : c < f.tails
    · rw [if_pos h]
      exact ⟨s, 0, c, rfl, h, by omega, fun z => by omega⟩
    · rw [if_neg h]
      exact ⟨s, (q - f.qmin).toNat + 1, c - f.tails, rfl, by omega, by omega, fun z => by omega⟩
theorem fl_tail64 : FP.Core.b64.tails = 4503599627370496 := by decide
theorem fl_exps64 : FP.Core.b64.exps = 2048 := by decide
theorem fl_p64 : 2 ^ FP.Core.b64.p = 9007199254740992 := by decide
theorem fl_qm64 : FP.Core.b64.qmin = -1074 := by decide
theorem fl_qx64 : FP.Core.b64.qmax = 971 := by decide
theorem fl_tail32 : FP.Core.b32.tails = 8388608 := by decide
theorem fl_exps32 : FP.Core.b32.exps = 256 := by decide
theorem fl_p32 : 2 ^ FP.Core.b32.p = 16777216 := by decide
theorem fl_qm32 : FP.Core.b32.qmin = -149 := by decide
theorem fl_qx32 : FP.Core.b32.qmax = 104 := by decide
theorem fl_b (s : Bool) : s.toNat ≤ 1 := by cases s <;> decide
theorem fl_out64 {d : FP.Core.Datum} (hg : fl_good FP.Core.b64 d) : mm_n64 (UInt64.ofNat (FP.Core.encode FP.Core.b64 d)) = true := by
  obtain ⟨s, e, t, h1, h2, h3, h4⟩ := fl_enc hg (by rw [fl_p64, fl_tail64]) (by rw [fl_tail64]; decide) (by rw [fl_qm64, fl_qx64, fl_exps64]; decide) (by rw [fl_exps64]; decide)
  have hs := fl_b s
  rw [fl_tail64] at h2
  rw [fl_exps64] at h3 h4
  have ha : FP.Core.assemble FP.Core.b64 s e t = (s.toNat * 2048 + e) * 4503599627370496 + t := by
    unfold FP.Core.assemble
    rw [fl_tail64, fl_exps64]
  have hr : (UInt64.ofNat (FP.Core.encode FP.Core.b64 d)).toNat = (s.toNat * 2048 + e) * 4503599627370496 + t := by
    rw [h1, ha, UInt64.toNat_ofNat']
    exact Nat.mod_eq_of_lt (by omega)
  refine decide_eq_true ?_
  rw [UInt64.le_iff_toNat_le, UInt64.toNat_and, hr, show (0x7fffffffffffffff : UInt64).toNat = 2 ^ 63 - 1 by decide, Nat.and_two_pow_sub_one_eq_mod, show (0x7ff0000000000000 : UInt64).toNat = 9218868437227405312 by decide]
  have : e ≤ 2046 ∨ (e = 2047 ∧ t = 0) := by
    rcases Nat.lt_or_ge e 2047 with h9 | h9
    · exact Or.inl (by omega)
    · exact Or.inr ⟨by omega, h4 (by omega)⟩
  omega
theorem fl_out32 {d : FP.Core.Datum} (hg : fl_good FP.Core.b32 d) : mm_n32 (UInt32.ofNat (FP.Core.encode FP.Core.b32 d)) = true ∧ ¬ FP.Core.decode FP.Core.b32 (UInt32.ofNat (FP.Core.encode FP.Core.b32 d)).toNat = .nan := by
  obtain ⟨s, e, t, h1, h2, h3, h4⟩ := fl_enc hg (by rw [fl_p32, fl_tail32]) (by rw [fl_tail32]; decide) (by rw [fl_qm32, fl_qx32, fl_exps32]; decide) (by rw [fl_exps32]; decide)
  have hs := fl_b s
  rw [fl_tail32] at h2
  rw [fl_exps32] at h3 h4
  have ha : FP.Core.assemble FP.Core.b32 s e t = (s.toNat * 256 + e) * 8388608 + t := by
    unfold FP.Core.assemble
    rw [fl_tail32, fl_exps32]
  have hr : (UInt32.ofNat (FP.Core.encode FP.Core.b32 d)).toNat = (s.toNat * 256 + e) * 8388608 + t := by
    rw [h1, ha, UInt32.toNat_ofNat']
    exact Nat.mod_eq_of_lt (by omega)
  have h5 : e ≤ 254 ∨ (e = 255 ∧ t = 0) := by
    rcases Nat.lt_or_ge e 255 with h9 | h9
    · exact Or.inl (by omega)
    · exact Or.inr ⟨by omega, h4 (by omega)⟩
  constructor
  · refine decide_eq_true ?_
    rw [UInt32.le_iff_toNat_le, UInt32.toNat_and, hr, show (0x7fffffff : UInt32).toNat = 2 ^ 31 - 1 by decide, Nat.and_two_pow_sub_one_eq_mod, show (0x7f800000 : UInt32).toNat = 2139095040 by decide]
    omega
  · rw [hr]
    unfold FP.Core.decode FP.Core.fieldE FP.Core.fieldT
    rw [fl_tail32, fl_exps32]
    by_cases h6 : ((s.toNat * 256 + e) * 8388608 + t) / 8388608 % 256 = 256 - 1
    · rw [if_pos h6, if_pos (by omega)]
      intro z
      cases z
    · rw [if_neg h6]
      split
      · intro z
        cases z
      · intro z
        cases z
/-- a whole number as it is read back -/
theorem fl_lead {c : Nat} (hc : ¬ c = 0) : FP.Core.leading c 1 ≤ (c.log2 : Int) := by
  unfold FP.Core.leading
  rw [show Nat.log2 1 = 0 by decide]
  dsimp only
  split
  · omega
  · omega
theorem fl_near {n d : Nat} (h0 : 0 < d) (h : d ≤ n) : 0 < FP.Core.nearest n d := by
  have h1 : 0 < n / d := Nat.div_pos h h0
  unfold FP.Core.nearest
  split
  · exact h1
  · split
    · omega
    · omega
theorem fl_int {f : FP.Core.Fmt} {s : Bool} {c : Nat} (hc : ¬ c = 0) (h31 : c ≤ 2147483648) (hT : f.tails < 2 ^ f.p) (h0 : 0 < f.tails) (hm : f.qmin < 0) (hx : 40 ≤ f.qmax) (hp : 1 ≤ f.p) :
    ∃ c' q', FP.Core.roundRatio f s c 1 0 = .fin s c' q' ∧ ¬ c' = 0 ∧ c' < 2 ^ f.p ∧ q' ≤ 40 := by
  unfold FP.Core.roundRatio FP.Core.roundAt
  rw [if_neg hc]
  have hl : c.log2 ≤ 31 := by
    have := (Nat.log2_lt hc (k := 32)).mpr (by omega)
    omega
  have h1 := fl_lead hc
  have hq : FP.Core.quantum f c 1 0 ≤ (c.log2 : Int) := by
    unfold FP.Core.quantum
    omega
  generalize FP.Core.quantum f c 1 0 = q at hq
  have hn : 0 < FP.Core.nearest (FP.Core.unitsNum c 0 q) (FP.Core.unitsDen 1 0 q) := by
    unfold FP.Core.unitsNum FP.Core.unitsDen
    have e1 : 2 ^ (q - 0).toNat ≤ c := Nat.le_trans (Nat.pow_le_pow_right (by decide) (show (q - 0).toNat ≤ c.log2 by omega)) (Nat.log2_self_le hc)
    have e2 : c ≤ c * 2 ^ (0 - q).toNat := Nat.le_mul_of_pos_right c (Nat.two_pow_pos _)
    refine fl_near (by rw [Nat.one_mul]; exact Nat.two_pow_pos _) (by rw [Nat.one_mul]; exact Nat.le_trans e1 e2)
  generalize FP.Core.nearest (FP.Core.unitsNum c 0 q) (FP.Core.unitsDen 1 0 q) = n at hn
  unfold FP.Core.settle FP.Core.bound
  by_cases h : n < 2 ^ f.p
  · rw [if_pos h, if_pos (by omega)]
    exact ⟨n, q, rfl, by omega, h, by omega⟩
  · rw [if_neg h, if_pos (by omega)]
    exact ⟨f.tails, q + 1, rfl, by omega, hT, by omega⟩
theorem fl_abs (x : Int32) : x.toInt.natAbs ≤ 2147483648 := by
  have h1 := x.toInt_lt
  have h2 := x.le_toInt
  omega
theorem fl_i2d (x : Int32) : ∃ s c q, FP.Core.decode FP.Core.b64 (FP.i2d x).toNat = .fin s c q ∧ (x ≠ 0 → ¬ c = 0) := by
  have e : FP.i2d x = UInt64.ofNat (FP.Core.encode FP.Core.b64 (FP.Core.roundRatio FP.Core.b64 (decide (x.toInt < 0)) x.toInt.natAbs 1 0)) := rfl
  have dec : ∀ s e t, t < 4503599627370496 → e < 2047 → ∀ n : UInt64, n.toNat = (Bool.toNat s * 2048 + e) * 4503599627370496 + t → ∃ s' c q, FP.Core.decode FP.Core.b64 n.toNat = .fin s' c q ∧ (0 < e ∨ 0 < t → ¬ c = 0) := by
    intro s e t ht he n hn
    have hs := fl_b s
    rw [hn]
    unfold FP.Core.decode FP.Core.fieldE FP.Core.fieldT
    rw [fl_tail64, fl_exps64]
    rw [if_neg (by omega)]
    by_cases h0 : ((s.toNat * 2048 + e) * 4503599627370496 + t) / 4503599627370496 % 2048 = 0
    · rw [if_pos h0]
      exact ⟨_, _, _, rfl, fun z => by omega⟩
    · rw [if_neg h0]
      exact ⟨_, _, _, rfl, fun z => by omega⟩
  have asm : ∀ s e t, t < 4503599627370496 → e < 2047 → (UInt64.ofNat (FP.Core.assemble FP.Core.b64 s e t)).toNat = (Bool.toNat s * 2048 + e) * 4503599627370496 + t := by
    intro s e t ht he
    have hs := fl_b s
    unfold FP.Core.assemble
    rw [fl_tail64, fl_exps64, UInt64.toNat_ofNat']
    exact Nat.mod_eq_of_lt (by omega)
  by_cases hx : x.toInt.natAbs = 0
  · rw [e, hx]
    have e2 : FP.Core.encode FP.Core.b64 (FP.Core.roundRatio FP.Core.b64 (decide (x.toInt < 0)) 0 1 0) = FP.Core.assemble FP.Core.b64 (decide (x.toInt < 0)) 0 0 := rfl
    rw [e2]
    obtain ⟨s', c, q, h1, h2⟩ := dec _ 0 0 (by decide) (by decide) _ (asm (decide (x.toInt < 0)) 0 0 (by decide) (by decide))
    refine ⟨s', c, q, h1, fun hn => absurd (Int32.toInt_inj.mp ?_) hn⟩
    rw [Int32.toInt_zero]
    omega
  · obtain ⟨c', q', h1, h2, h3, h4⟩ := fl_int (f := FP.Core.b64) (s := decide (x.toInt < 0)) hx (fl_abs x) (by rw [fl_tail64, fl_p64]; decide) (by rw [fl_tail64]; decide) (by rw [fl_qm64]; decide) (by rw [fl_qx64]; decide) (by decide)
    rw [fl_p64] at h3
    rw [e, h1]
    have e2 : FP.Core.encode FP.Core.b64 (.fin (decide (x.toInt < 0)) c' q') = if c' < FP.Core.b64.tails then FP.Core.assemble FP.Core.b64 (decide (x.toInt < 0)) 0 c' else FP.Core.assemble FP.Core.b64 (decide (x.toInt < 0)) ((q' - FP.Core.b64.qmin).toNat + 1) (c' - FP.Core.b64.tails) := rfl
    rw [e2, fl_tail64, fl_qm64]
    by_cases h5 : c' < 4503599627370496
    · rw [if_pos h5]
      obtain ⟨s', c, q, h6, h7⟩ := dec _ 0 c' h5 (by decide) _ (asm (decide (x.toInt < 0)) 0 c' h5 (by decide))
      exact ⟨s', c, q, h6, fun _ => h7 (Or.inr (by omega))⟩
    · rw [if_neg h5]
      obtain ⟨s', c, q, h6, h7⟩ := dec _ ((q' - -1074).toNat + 1) (c' - 4503599627370496) (by omega) (by omega) _ (asm (decide (x.toInt < 0)) ((q' - -1074).toNat + 1) (c' - 4503599627370496) (by omega) (by omega))
      exact ⟨s', c, q, h6, fun _ => h7 (Or.inl (by omega))⟩
theorem fl_i2f (x : Int32) : ∃ s c q, FP.Core.decode FP.Core.b32 (FP.i2f x).toNat = .fin s c q ∧ (x ≠ 0 → ¬ c = 0) := by
  have e : FP.i2f x = UInt32.ofNat (FP.Core.encode FP.Core.b32 (FP.Core.roundRatio FP.Core.b32 (decide (x.toInt < 0)) x.toInt.natAbs 1 0)) := rfl
  have dec : ∀ s e t, t < 8388608 → e < 255 → ∀ n : UInt32, n.toNat = (Bool.toNat s * 256 + e) * 8388608 + t → ∃ s' c q, FP.Core.decode FP.Core.b32 n.toNat = .fin s' c q ∧ (0 < e ∨ 0 < t → ¬ c = 0) := by
    intro s e t ht he n hn
    have hs := fl_b s
    rw [hn]
    unfold FP.Core.decode FP.Core.fieldE FP.Core.fieldT
    rw [fl_tail32, fl_exps32]
    rw [if_neg (by omega)]
    by_cases h0 : ((s.toNat * 256 + e) * 8388608 + t) / 8388608 % 256 = 0
    · rw [if_pos h0]
      exact ⟨_, _, _, rfl, fun z => by omega⟩
    · rw [if_neg h0]
      exact ⟨_, _, _, rfl, fun z => by omega⟩
  have asm : ∀ s e t, t < 8388608 → e < 255 → (UInt32.ofNat (FP.Core.assemble FP.Core.b32 s e t)).toNat = (Bool.toNat s * 256 + e) * 8388608 + t := by
    intro s e t ht he
    have hs := fl_b s
    unfold FP.Core.assemble
    rw [fl_tail32, fl_exps32, UInt32.toNat_ofNat']
    exact Nat.mod_eq_of_lt (by omega)
  by_cases hx : x.toInt.natAbs = 0
  · rw [e, hx]
    have e2 : FP.Core.encode FP.Core.b32 (FP.Core.roundRatio FP.Core.b32 (decide (x.toInt < 0)) 0 1 0) = FP.Core.assemble FP.Core.b32 (decide (x.toInt < 0)) 0 0 := rfl
    rw [e2]
    obtain ⟨s', c, q, h1, h2⟩ := dec _ 0 0 (by decide) (by decide) _ (asm (decide (x.toInt < 0)) 0 0 (by decide) (by decide))
    refine ⟨s', c, q, h1, fun hn => absurd (Int32.toInt_inj.mp ?_) hn⟩
    rw [Int32.toInt_zero]
    omega
  · obtain ⟨c', q', h1, h2, h3, h4⟩ := fl_int (f := FP.Core.b32) (s := decide (x.toInt < 0)) hx (fl_abs x) (by rw [fl_tail32, fl_p32]; decide) (by rw [fl_tail32]; decide) (by rw [fl_qm32]; decide) (by rw [fl_qx32]; decide) (by decide)
    rw [fl_p32] at h3
    rw [e, h1]
    have e2 : FP.Core.encode FP.Core.b32 (.fin (decide (x.toInt < 0)) c' q') = if c' < FP.Core.b32.tails then FP.Core.assemble FP.Core.b32 (decide (x.toInt < 0)) 0 c' else FP.Core.assemble FP.Core.b32 (decide (x.toInt < 0)) ((q' - FP.Core.b32.qmin).toNat + 1) (c' - FP.Core.b32.tails) := rfl
    rw [e2, fl_tail32, fl_qm32]
    by_cases h5 : c' < 8388608
    · rw [if_pos h5]
      obtain ⟨s', c, q, h6, h7⟩ := dec _ 0 c' h5 (by decide) _ (asm (decide (x.toInt < 0)) 0 c' h5 (by decide))
      exact ⟨s', c, q, h6, fun _ => h7 (Or.inr (by omega))⟩
    · rw [if_neg h5]
      obtain ⟨s', c, q, h6, h7⟩ := dec _ ((q' - -149).toNat + 1) (c' - 8388608) (by omega) (by omega) _ (asm (decide (x.toInt < 0)) ((q' - -149).toNat + 1) (c' - 8388608) (by omega) (by omega))
      exact ⟨s', c, q, h6, fun _ => h7 (Or.inl (by omega))⟩
theorem fl_ddiv (x y : Int32) (hy : y ≠ 0) : mm_n64 (FP.ddiv (FP.i2d x) (FP.i2d y)) = true := by
  obtain ⟨s, c, q, h1, _⟩ := fl_i2d x
  obtain ⟨t, d, r, h2, h3⟩ := fl_i2d y
  have e : FP.ddiv (FP.i2d x) (FP.i2d y) = UInt64.ofNat (FP.Core.encode FP.Core.b64 (FP.Core.quotient FP.Core.b64 (FP.Core.decode FP.Core.b64 (FP.i2d x).toNat) (FP.Core.decode FP.Core.b64 (FP.i2d y).toNat))) := rfl
  rw [e, h1, h2]
  exact fl_out64 (fl_quot (by rw [fl_tail64, fl_p64]; decide) (by rw [fl_qm64, fl_qx64]; decide) (h3 hy))
theorem fl_fdiv (x y : Int32) (hy : y ≠ 0) : mm_n32 (FP.fdiv (FP.i2f x) (FP.i2f y)) = true ∧ mm_n64 (FP.f2d (FP.fdiv (FP.i2f x) (FP.i2f y))) = true := by
  obtain ⟨s, c, q, h1, _⟩ := fl_i2f x
  obtain ⟨t, d, r, h2, h3⟩ := fl_i2f y
  have e : FP.fdiv (FP.i2f x) (FP.i2f y) = UInt32.ofNat (FP.Core.encode FP.Core.b32 (FP.Core.quotient FP.Core.b32 (FP.Core.decode FP.Core.b32 (FP.i2f x).toNat) (FP.Core.decode FP.Core.b32 (FP.i2f y).toNat))) := rfl
  rw [e, h1, h2]
  obtain ⟨k1, k2⟩ := fl_out32 (fl_quot (s := s) (c := c) (q := q) (t := t) (r := r) (by rw [fl_tail32, fl_p32]; decide) (by rw [fl_qm32, fl_qx32]; decide) (h3 hy))
  refine ⟨k1, ?_⟩
  generalize UInt32.ofNat (FP.Core.encode FP.Core.b32 (FP.Core.quotient FP.Core.b32 (.fin s c q) (.fin t d r))) = v at k1 k2
  have hnan : FP.Core.fIsNaN v = false := decide_eq_false k2
  unfold FP.f2d
  rw [hnan, if_neg (by decide)]
  have e3 : FP.Core.f2d v = UInt64.ofNat (FP.Core.encode FP.Core.b64 (FP.Core.round FP.Core.b64 (FP.Core.decode FP.Core.b32 v.toNat))) := rfl
  rw [e3]
  refine fl_out64 ?_
  cases hd : FP.Core.decode FP.Core.b32 v.toNat with
  | nan => exact absurd hd k2
  | inf s => trivial
  | fin s c q => exact fl_ratio (by rw [fl_tail64, fl_p64]; decide) (by rw [fl_qm64, fl_qx64]; decide)
variable {A : sp_A} {S : sp_S} {h : mm_H}
def sp_mean (S : sp_S) (p : Nat) : UInt64 := if nI (sp_stock S p) = 0 then FP.dconst0 else FP.ddiv (FP.i2d (nI (sp_worth S p))) (FP.i2d (nI (sp_stock S p)))
def sp_waste (S : sp_S) (p : Nat) : UInt32 := if sp_ac S p 0 = 0 then FP.fconst0 else FP.fdiv (FP.i2f (sp_ac S p 2)) (FP.i2f (sp_ac S p 0))
theorem sp_waste_n (S : sp_S) (p : Nat) : mm_n64 (FP.f2d (sp_waste S p)) = true := by
  unfold sp_waste
  by_cases h : sp_ac S p 0 = 0
  · rw [if_pos h]
    decide +kernel
  · rw [if_neg h]
    exact (fl_fdiv _ _ h).2
theorem op_meanCost (x : Int32) : op_run (lc_1 po_IO) (gX10_meanCost x) (gX11_meanCost x) := by
  intro A ok
  have h8 := ok.1.1.1
  rcases po_cs x (n := sp_np (sa_C A)) (by omega) with ⟨p, hp, rfl⟩ | hx
  · refine op_q ok (v := sp_mean (sa_S A) p) (fun h H => ⟨h, ?_, po_fr_refl h⟩) (fun h H => ?_)
    · unfold gX10_meanCost sp_mean
      rw [pc_ckP H ok hp, Option.bind_some]
      dsimp only
      rw [pc_units po_k21 H.1.2 ok.1.2 (by omega), Option.bind_some]
      by_cases hz : nI (sp_stock (sa_S A) p) = 0
      · rw [if_pos hz, if_pos hz]
      · rw [if_neg hz, if_neg hz, pc_worth po_k21 H.1.2 ok.1.2 (by omega), Option.bind_some, if_pos (fl_ddiv _ _ hz)]
    · unfold gX11_meanCost sp_mean
      have H9 := ra_m_9 (v := 0) H ok
      rw [pm_isP H ok hp, Option.bind_some]
      dsimp only [mm_jn]
      rw [if_pos rfl, po_fails_0, Option.bind_some, if_neg Bool.false_ne_true, pm_stock H9.1.2 ok.1.2 (by omega), Option.bind_some]
      by_cases hz : nI (sp_stock (sa_S A) p) = 0
      · rw [if_pos hz, if_pos hz]
      · rw [if_neg hz, if_neg hz, pm_worth H9.1.2 ok.1.2 (by omega), Option.bind_some, Option.bind_some, if_pos (fl_ddiv _ _ hz)]
  · refine op_no ok (t := 1) (v := FP.dconst0) lc_1a (by decide) (fun h H => ?_) (fun h H => ?_)
    · unfold gX10_meanCost
      rw [pc_ckPn H hx]
      rfl
    · unfold gX11_meanCost
      rw [pm_isPn H ok hx, Option.bind_some]
      dsimp only [mm_jn]
      rw [if_neg (by decide), po_fails_1, Option.bind_some, if_pos rfl]
theorem op_wasteShare (x : Int32) : ∀ A, sa_ok A → (∃ v, mm_n64 (FP.f2d v) = true ∧ op_c (gX10_wasteShare x) A v A ∧ op_m (gX11_wasteShare x) A 0 v A) ∨ (op_x (gX10_wasteShare x) A po_IO A ∧ op_m (gX11_wasteShare x) A 1 FP.fconst0 A) := by
  intro A ok
  have h8 := ok.1.1.1
  rcases po_cs x (n := sp_np (sa_C A)) (by omega) with ⟨p, hp, rfl⟩ | hx
  · refine Or.inl ⟨sp_waste (sa_S A) p, sp_waste_n _ _, fun h H => ⟨h, ?_, H, po_fr_refl h⟩, fun h H => ⟨ms_I h 352 9 0, ?_, po_I1, ra_m_9 H ok, po_fm9⟩⟩
    · unfold gX10_wasteShare sp_waste
      have e0 : gX4_get 42 (nI p) h = some (sp_ac (sa_S A) p 0) := (pc_acc (k := 21) H (show p < 8 by omega) (by decide)).trans (congrArg some (H.1.2.2.2.2 p (by omega)).1)
      have e2 : gX4_get 48 (nI p) h = some (sp_ac (sa_S A) p 2) := (pc_acc (k := 27) H (show p < 8 by omega) (by decide)).trans (congrArg some (H.1.2.2.2.2 p (by omega)).2.2.1)
      rw [pc_ckP H ok hp, Option.bind_some]
      dsimp only
      rw [e0, Option.bind_some]
      by_cases hz : sp_ac (sa_S A) p 0 = 0
      · rw [if_pos hz, if_pos hz]
      · rw [if_neg hz, if_neg hz, e2, Option.bind_some, if_pos (fl_fdiv _ _ hz).1]
    · unfold gX11_wasteShare sp_waste
      have H9 := ra_m_9 (v := 0) H ok
      rw [pm_isP H ok hp, Option.bind_some]
      dsimp only [mm_jn]
      rw [if_pos rfl, po_fails_0, Option.bind_some, if_neg Bool.false_ne_true, pm_ofP (x := 8) (w := 8 + 0) rfl (by omega) (by decide), pm_zP H9 (show p < 8 by omega) (by decide), Option.bind_some]
      by_cases hz : sp_ac (sa_S A) p 0 = 0
      · rw [if_pos hz, if_pos hz]
      · rw [if_neg hz, if_neg hz, pm_ofP (x := 10) (w := 8 + 2) rfl (by omega) (by decide), pm_zP H9 (show p < 8 by omega) (by decide), Option.bind_some, if_pos (fl_fdiv _ _ hz).1]
  · refine Or.inr ⟨fun h H => ⟨h, ?_, H, po_fr_refl h⟩, fun h H => ⟨ms_I h 352 9 1, ?_, po_I1, ra_m_9 H ok, po_fm9⟩⟩
    · unfold gX10_wasteShare
      rw [pc_ckPn H hx]
      rfl
    · unfold gX11_wasteShare
      rw [pm_isPn H ok hx, Option.bind_some]
      dsimp only [mm_jn]
      rw [if_neg (by decide), po_fails_1, Option.bind_some, if_pos rfl]
end PQC

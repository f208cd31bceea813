section PPC
/-! what the class's Stock answers -/
theorem po_bool {c d : Prop} {_ : Decidable c} {_ : Decidable d} (h : c ↔ d) : (if c then some true else some false) = some (decide d) := by
  by_cases hc : c
  · rw [if_pos hc, decide_eq_true (h.mp hc)]
  · rw [if_neg hc, decide_eq_false (fun z => hc (h.mpr z))]
theorem po_boolN {c d : Prop} {_ : Decidable c} {_ : Decidable d} (h : c ↔ ¬ d) : (if c then some false else some true) = some (decide d) := by
  by_cases hc : c
  · rw [if_pos hc, decide_eq_false (h.mp hc)]
  · rw [if_neg hc, decide_eq_true (Classical.byContradiction (fun z => hc (h.mpr z)))]
theorem pc_get {o k c b : Nat} {h : mm_H} {v : Int32} (hc : mm_cap (o + k) = c) (hb : b < c) (h6 : c < 60000) (hv : mh_I h (o + (k + 1)) b = v) : gX4_get (o + k) (nI b) h = some v := by
  rw [po_get (by rw [hc]; exact hb) (by rw [hc]; exact h6)]
  exact congrArg some hv
variable {S : sp_S} {o : Nat} {h : mm_H}
theorem pc_b20 (ok : sp_ok S) {b : Nat} (hb : b < sp_nb S) : b < 20 := Nat.lt_of_lt_of_le hb ok.1.2.1
theorem pc_r10 (ok : sp_ok S) {r : Nat} (hr : r < sp_nr S) : r < 10 := Nat.lt_of_lt_of_le hr ok.1.2.2
theorem pc_g1 (hk : mm_kd o = (0, 7)) (H : sc_S S o h) (ok : sp_ok S) {b : Nat} (hb : b < sp_nb S) : gX4_get (o + 1) (nI b) h = some (nI (sp_b S b 0)) := pc_get (po_cap7 hk).1.1 (pc_b20 ok hb) (by decide) (H.2.1 b hb).1
theorem pc_g3 (hk : mm_kd o = (0, 7)) (H : sc_S S o h) (ok : sp_ok S) {b : Nat} (hb : b < sp_nb S) : gX4_get (o + 3) (nI b) h = some (nI (sp_b S b 1)) := pc_get (po_cap7 hk).1.2.1 (pc_b20 ok hb) (by decide) (H.2.1 b hb).2.1
theorem pc_g5 (hk : mm_kd o = (0, 7)) (H : sc_S S o h) (ok : sp_ok S) {b : Nat} (hb : b < sp_nb S) : gX4_get (o + 5) (nI b) h = some (nI (sp_held S b)) := pc_get (po_cap7 hk).1.2.2.1 (pc_b20 ok hb) (by decide) (H.2.1 b hb).2.2.1
theorem pc_g7 (hk : mm_kd o = (0, 7)) (H : sc_S S o h) (ok : sp_ok S) {b : Nat} (hb : b < sp_nb S) : gX4_get (o + 7) (nI b) h = some (nI (sp_b S b 2)) := pc_get (po_cap7 hk).1.2.2.2.1 (pc_b20 ok hb) (by decide) (H.2.1 b hb).2.2.2.1
theorem pc_g9 (hk : mm_kd o = (0, 7)) (H : sc_S S o h) (ok : sp_ok S) {b : Nat} (hb : b < sp_nb S) : gX4_get (o + 9) (nI b) h = some (nI (sp_b S b 3)) := pc_get (po_cap7 hk).1.2.2.2.2 (pc_b20 ok hb) (by decide) (H.2.1 b hb).2.2.2.2
theorem pc_g11 (hk : mm_kd o = (0, 7)) (H : sc_S S o h) (ok : sp_ok S) {r : Nat} (hr : r < sp_nr S) : gX4_get (o + 11) (nI r) h = some (nI (sp_r S r 0)) := pc_get (po_cap7 hk).2.1.1 (pc_r10 ok hr) (by decide) (H.2.2.1 r hr).1
theorem pc_g13 (hk : mm_kd o = (0, 7)) (H : sc_S S o h) (ok : sp_ok S) {r : Nat} (hr : r < sp_nr S) : gX4_get (o + 13) (nI r) h = some (nI (sp_r S r 1)) := pc_get (po_cap7 hk).2.1.2.1 (pc_r10 ok hr) (by decide) (H.2.2.1 r hr).2.1
theorem pc_g15 (hk : mm_kd o = (0, 7)) (H : sc_S S o h) (ok : sp_ok S) {r : Nat} (hr : r < sp_nr S) : gX4_get (o + 15) (nI r) h = some (nI (sp_r S r 2)) := pc_get (po_cap7 hk).2.1.2.2.1 (pc_r10 ok hr) (by decide) (H.2.2.1 r hr).2.2.1
theorem pc_g17 (hk : mm_kd o = (0, 7)) (H : sc_S S o h) (ok : sp_ok S) {r : Nat} (hr : r < sp_nr S) : gX4_get (o + 17) (nI r) h = some (nI (sp_r S r 3)) := pc_get (po_cap7 hk).2.1.2.2.2.1 (pc_r10 ok hr) (by decide) (H.2.2.1 r hr).2.2.2.1
theorem pc_ix (r b : Nat) : nI r * 20 + nI b = nI (20 * r + b) := by
  rw [show (20 : Int32) = nI 20 from rfl, pk_mul, nI_add, Nat.mul_comm]
theorem pc_g19 (hk : mm_kd o = (0, 7)) (H : sc_S S o h) (ok : sp_ok S) {r b : Nat} (hr : r < sp_nr S) (hb : b < 20) : gX4_get (o + 19) (nI r * 20 + nI b) h = some (nI (sp_al S r b)) := by
  rw [pc_ix]
  have h1 := pc_r10 ok hr
  exact pc_get (po_cap7 hk).2.1.2.2.2.2 (by omega) (by decide) ((H.2.2.1 r hr).2.2.2.2 b hb)
theorem pc_isOf (hk : mm_kd o = (0, 7)) (H : sc_S S o h) (ok : sp_ok S) {b p : Nat} (hb : b < sp_nb S) (hp : p < 2 ^ 31) : gX7_isOf o (nI b) (nI p) h = some (decide (sp_b S b 0 = p)) := by
  unfold gX7_isOf
  rw [pc_g1 hk H ok hb]
  have h1 := (ok.2.1 b hb).1
  exact po_bool (nI_eq (by omega) hp)
theorem pc_lasts (hk : mm_kd o = (0, 7)) (H : sc_S S o h) (ok : sp_ok S) {b d : Nat} (hb : b < sp_nb S) (hd : d < 2 ^ 31) : gX7_lastsUntil o (nI b) (nI d) h = some (decide (d ≤ sp_b S b 2)) := by
  unfold gX7_lastsUntil
  rw [pc_g7 hk H ok hb]
  have h1 := (ok.2.1 b hb).2.2.1
  exact po_boolN ((nI_ltI (by omega) hd).trans (by omega))
theorem pc_free (hk : mm_kd o = (0, 7)) (H : sc_S S o h) (ok : sp_ok S) {b : Nat} (hb : b < sp_nb S) : gX7_freeUnitsIn o (nI b) h = some (nI (sp_free S b)) := by
  unfold gX7_freeUnitsIn
  rw [pc_g3 hk H ok hb]
  dsimp only [Option.bind_some]
  rw [pc_g5 hk H ok hb]
  exact congrArg some (pk_sub (sp_held_le ok hb))
theorem pc_hasExp (hk : mm_kd o = (0, 7)) (H : sc_S S o h) (ok : sp_ok S) {b : Nat} (hb : b < sp_nb S) : gX7_hasExpired o (nI b) h = some (decide (sp_b S b 2 < sp_dy S)) := by
  unfold gX7_hasExpired
  rw [pc_g7 hk H ok hb]
  dsimp only [Option.bind_some]
  have h1 := (ok.2.1 b hb).2.2.1
  have h2 := ok.1.1
  rw [H.1.1]
  exact po_bool (nI_ltI (by omega) (by omega))
theorem pc_pend (hk : mm_kd o = (0, 7)) (H : sc_S S o h) (ok : sp_ok S) {r : Nat} (hr : r < sp_nr S) : gX7_isPending o (nI r) h = some (decide (sp_r S r 3 = 0)) := by
  unfold gX7_isPending
  rw [pc_g17 hk H ok hr]
  have h1 := (ok.2.2 r hr).2.2.2.1
  exact po_bool (nI_eq (b := 0) (by omega) (by omega))
theorem pc_alloc (hk : mm_kd o = (0, 7)) (H : sc_S S o h) (ok : sp_ok S) {r b : Nat} (hr : r < sp_nr S) (hb : b < 20) : gX7_allocatedUnits o (nI r) (nI b) h = some (nI (sp_al S r b)) := by
  unfold gX7_allocatedUnits
  rw [pc_g19 hk H ok hr hb]
  rfl
theorem pc_nbF (ok : sp_ok S) : sp_nb S - 0 < mm_F := Nat.lt_of_le_of_lt (Nat.sub_le _ _) (Nat.lt_of_le_of_lt ok.1.2.1 (by decide))
theorem pc_lt (H : sc_S S o h) (ok : sp_ok S) {i : Nat} (hi : i < sp_nb S) : nI i < mh_I h o 1 := by
  rw [H.1.2.1]
  have := ok.1.2.1
  exact nI_lt hi (by omega)
theorem pc_nlt (H : sc_S S o h) (ok : sp_ok S) : ¬ nI (sp_nb S) < mh_I h o 1 := by
  rw [H.1.2.1]
  have := ok.1.2.1
  exact nI_nlt (Nat.le_refl _) (by omega)
theorem pc_units (hk : mm_kd o = (0, 7)) (H : sc_S S o h) (ok : sp_ok S) {p : Nat} (hp : p < 2 ^ 31) : gX7_unitsOf o (nI p) h = some (nI (sp_stock S p)) := by
  refine po_loopF (fun n i s => gX7_unitsOf_L4 o (nI p) h n (nI s) (nI i)) (sp_nb S) (sp_sum (fun b => if sp_b S b 0 = p then sp_b S b 1 else 0)) _ (fun n => ?_) (fun n i hi => ?_) mm_F 0 (Nat.zero_le _) (pc_nbF ok)
  · try dsimp only
    rw [gX7_unitsOf_L4, if_neg (pc_nlt H ok)]
    rfl
  · try dsimp only
    rw [gX7_unitsOf_L4, if_pos (pc_lt H ok hi), pc_isOf hk H ok hi hp]
    simp only [mm_jn, Option.bind_some, nI_1, sp_sum]
    by_cases hc : sp_b S i 0 = p
    · rw [if_pos (decide_eq_true hc), if_pos hc, pc_g3 hk H ok hi]
      simp only [Option.bind_some, nI_add]
    · rw [if_neg (by rw [decide_eq_false hc]; decide), if_neg hc]
      rfl
theorem pc_avail (hk : mm_kd o = (0, 7)) (H : sc_S S o h) (ok : sp_ok S) {p d : Nat} (hp : p < 2 ^ 31) (hd : d < 2 ^ 31) : gX7_availableUnits o (nI p) (nI d) h = some (nI (sp_av S p d)) := by
  refine po_loopF (fun n i s => gX7_availableUnits_L5 o (nI p) (nI d) h n (nI s) (nI i)) (sp_nb S) (sp_sum (fun b => if sp_b S b 0 = p ∧ d ≤ sp_b S b 2 then sp_free S b else 0)) _ (fun n => ?_) (fun n i hi => ?_) mm_F 0 (Nat.zero_le _) (pc_nbF ok)
  · try dsimp only
    rw [gX7_availableUnits_L5, if_neg (pc_nlt H ok)]
    rfl
  · try dsimp only
    rw [gX7_availableUnits_L5, if_pos (pc_lt H ok hi), pc_isOf hk H ok hi hp]
    simp only [mm_jn, Option.bind_some, nI_1, sp_sum]
    by_cases hc : sp_b S i 0 = p
    · rw [if_pos (decide_eq_true hc), pc_lasts hk H ok hi hd]
      simp only [Option.bind_some]
      by_cases hc2 : d ≤ sp_b S i 2
      · rw [if_pos (decide_eq_true hc2), if_pos ⟨hc, hc2⟩, pc_free hk H ok hi]
        simp only [Option.bind_some, nI_add]
      · rw [if_neg (by rw [decide_eq_false hc2]; decide), if_neg (fun z => hc2 z.2)]
        rfl
    · rw [if_neg (by rw [decide_eq_false hc]; decide), if_neg (fun z => hc z.1)]
      rfl
theorem pc_alls (hk : mm_kd o = (0, 7)) (H : sc_S S o h) (ok : sp_ok S) {r : Nat} (hr : r < sp_nr S) : gX7_allUnitsAllocated o (nI r) h = some (nI (sp_alls S r)) := by
  refine po_loopF (fun n i s => gX7_allUnitsAllocated_L4 o (nI r) h n (nI s) (nI i)) (sp_nb S) (sp_sum (fun b => sp_al S r b)) _ (fun n => ?_) (fun n i hi => ?_) mm_F 0 (Nat.zero_le _) (pc_nbF ok)
  · try dsimp only
    rw [gX7_allUnitsAllocated_L4, if_neg (pc_nlt H ok)]
    rfl
  · try dsimp only
    rw [gX7_allUnitsAllocated_L4, if_pos (pc_lt H ok hi), pc_g19 hk H ok hr (pc_b20 ok hi)]
    simp only [Option.bind_some, nI_1, sp_sum, nI_add]
theorem pc_missing (hk : mm_kd o = (0, 7)) (H : sc_S S o h) (ok : sp_ok S) {r : Nat} (hr : r < sp_nr S) : gX7_missingUnits o (nI r) h = some (nI (sp_lack S r)) := by
  unfold gX7_missingUnits sp_lack
  rw [pc_pend hk H ok hr]
  simp only [Option.bind_some]
  by_cases hc : sp_r S r 3 = 0
  · rw [if_pos (decide_eq_true hc), if_pos hc, pc_g13 hk H ok hr]
    simp only [Option.bind_some]
    rw [pc_alls hk H ok hr]
    exact congrArg some (pk_sub ((ok.2.2 r hr).2.2.2.2.2 hc))
  · rw [if_neg (by rw [decide_eq_false hc]; decide), if_neg hc]
    rfl
theorem sp_any_S (f : Nat → Bool) (n : Nat) : (List.range (n + 1)).any f = ((List.range n).any f || f n) := by
  rw [List.range_succ, List.any_append]
  simp
/-- a loop that looks for one that fits, from i on -/
theorem sp_any_from {f : Nat → Bool} {i n : Nat} (hi : i < n) (h0 : ∀ j, j < i → f j = false) (h1 : f i = true) : (List.range n).any f = true :=
  List.any_eq_true.mpr ⟨i, List.mem_range.mpr hi, h1⟩
theorem sp_any_no {f : Nat → Bool} {n : Nat} (h0 : ∀ j, j < n → f j = false) : (List.range n).any f = false := by
  rw [Bool.eq_false_iff]
  intro h
  obtain ⟨x, hx, hf⟩ := List.any_eq_true.mp h
  rw [h0 x (List.mem_range.mp hx)] at hf
  cases hf
theorem pc_holds (hk : mm_kd o = (0, 7)) (H : sc_S S o h) (ok : sp_ok S) {r d : Nat} (hr : r < sp_nr S) (hd : d < 2 ^ 31) : gX7_holdsExpiringBefore o (nI r) (nI d) h = some (sp_holds S r d) := by
  have key : ∀ n i, i ≤ sp_nb S → sp_nb S - i < n → (∀ j, j < i → decide (0 < sp_al S r j ∧ sp_b S j 2 < d) = false) → gX7_holdsExpiringBefore_L2 o (nI r) (nI d) h n (nI i) = some (sp_holds S r d) := by
    intro n
    induction n with
    | zero => intro i _ h9; omega
    | succ n ih =>
      intro i h1 h2 h3
      rw [gX7_holdsExpiringBefore_L2]
      rcases Nat.lt_or_ge i (sp_nb S) with hi | hi
      · rw [if_pos (pc_lt H ok hi), pc_alloc hk H ok hr (pc_b20 ok hi)]
        simp only [mm_jn, Option.bind_some, nI_1]
        have h4 := ((ok.2.2 r hr).2.2.2.2.1 i (pc_b20 ok hi)).1
        by_cases hc : 0 < sp_al S r i
        · rw [if_pos (po_0lt hc (by omega)), pc_lasts hk H ok hi hd]
          simp only [Option.bind_some]
          by_cases hc2 : d ≤ sp_b S i 2
          · rw [if_pos (decide_eq_true hc2)]
            exact ih (i + 1) (by omega) (by omega) (lt_s h3 (decide_eq_false (fun z => by omega)))
          · rw [if_neg (by rw [decide_eq_false hc2]; decide)]
            refine congrArg some (Eq.symm (sp_any_from hi h3 (decide_eq_true ⟨hc, by omega⟩)))
        · rw [if_neg (po_n0lt hc)]
          exact ih (i + 1) (by omega) (by omega) (lt_s h3 (decide_eq_false (fun z => hc z.1)))
      · have h4 : i = sp_nb S := by omega
        subst h4
        rw [if_neg (pc_nlt H ok)]
        exact congrArg some (Eq.symm (sp_any_no h3))
  exact key mm_F 0 (Nat.zero_le _) (pc_nbF ok) (fun j hj => absurd hj (Nat.not_lt_zero j))
theorem pc_why (hk : mm_kd o = (0, 7)) (H : sc_S S o h) (ok : sp_ok S) {r : Nat} (hr : r < sp_nr S) : gX7_shippingObstacle o (nI r) h = some (nI (sp_why S r)) := by
  unfold gX7_shippingObstacle sp_why
  rw [pc_pend hk H ok hr]
  simp only [Option.bind_some]
  by_cases hc : sp_r S r 3 = 0
  · rw [if_pos (decide_eq_true hc), if_pos hc, pc_missing hk H ok hr]
    simp only [Option.bind_some]
    have h1 : sp_lack S r ≤ 9999 := by
      have := (ok.2.2 r hr).2.1
      unfold sp_lack
      split <;> omega
    by_cases hc2 : 0 < sp_lack S r
    · rw [if_pos (po_0lt hc2 (by omega)), if_pos hc2]
      rfl
    · rw [if_neg (po_n0lt (by omega)), if_neg hc2, H.1.1, pc_holds hk H ok hr (by have := ok.1.1; omega)]
      simp only [Option.bind_some]
      cases sp_holds S r (sp_dy S) <;> rfl
  · rw [if_neg (by rw [decide_eq_false hc]; decide), if_neg hc]
    rfl
end PPC

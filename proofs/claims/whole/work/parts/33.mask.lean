section PPD
/-! what the reference's block 0 answers -/
theorem po_m0 : mm_ibd 0 4200 = true := by decide
theorem po_m1 : mm_ibd 1 4200 = true := by decide
theorem po_m2 : mm_ibd 2 4200 = true := by decide
theorem po_m3 : mm_ibd 3 4200 = true := by decide
variable {S : sp_S} {h : mm_H}
theorem pm_dy (H : sm_S S 0 h) : mh_I h 353 (Int32.toNatClampNeg 0) = nI (sp_dy S) := H.1.1
theorem pm_nb (H : sm_S S 0 h) : mh_I h 353 (Int32.toNatClampNeg 2) = nI (sp_nb S) := H.1.2.1
theorem pm_nr (H : sm_S S 0 h) : mh_I h 353 (Int32.toNatClampNeg 3) = nI (sp_nr S) := H.1.2.2
theorem pm_eB {b w : Nat} {x : Int32} (hw : x = nI w) : 100 + nI b * 4 + x = nI (100 + 4 * b + w) := by
  rw [hw, show (100 : Int32) = nI 100 from rfl, show (4 : Int32) = nI 4 from rfl, pk_mul, nI_add, nI_add, Nat.mul_comm]
theorem pm_eR {b w : Nat} {x : Int32} (hw : x = nI w) : 180 + nI b * 24 + x = nI (180 + 24 * b + w) := by
  rw [hw, show (180 : Int32) = nI 180 from rfl, show (24 : Int32) = nI 24 from rfl, pk_mul, nI_add, nI_add, Nat.mul_comm]
theorem pm_eP {b w : Nat} {x : Int32} (hw : x = nI w) : 4 + nI b * 12 + x = nI (4 + 12 * b + w) := by
  rw [hw, show (4 : Int32) = nI 4 from rfl, show (12 : Int32) = nI 12 from rfl, pk_mul, nI_add, nI_add, Nat.mul_comm]
theorem pm_ofB {b w : Nat} {x : Int32} (hw : x = nI w) (hb : b < 40) (h4 : w < 4) : gX11_ofBatch (nI b) x h = some (mh_I h 353 (100 + 4 * b + w)) := by
  unfold gX11_ofBatch
  rw [pm_eB hw, if_pos (po_ibd (by omega) (by decide)), nI_clamp (by omega)]
theorem pm_ofR {b w : Nat} {x : Int32} (hw : x = nI w) (hb : b < 40) (h4 : w < 24) : gX11_ofReservation (nI b) x h = some (mh_I h 353 (180 + 24 * b + w)) := by
  unfold gX11_ofReservation
  rw [pm_eR hw, if_pos (po_ibd (by omega) (by decide)), nI_clamp (by omega)]
theorem pm_ofP {b w : Nat} {x : Int32} (hw : x = nI w) (hb : b < 40) (h4 : w < 12) : gX11_ofProduct (nI b) x h = some (mh_I h 353 (4 + 12 * b + w)) := by
  unfold gX11_ofProduct
  rw [pm_eP hw, if_pos (po_ibd (by omega) (by decide)), nI_clamp (by omega)]
theorem pm_zB (H : sm_S S 0 h) {b w : Nat} (hb : b < sp_nb S) (hw : w < 4) : mh_I h 353 (100 + 4 * b + w) = nI (sp_b S b w) := by
  have h1 := H.2.1 b hb w hw
  rwa [show 420 * 0 + 100 + 4 * b + w = 100 + 4 * b + w by omega] at h1
theorem pm_zR (H : sm_S S 0 h) {r w : Nat} (hr : r < sp_nr S) (hw : w < 4) : mh_I h 353 (180 + 24 * r + w) = nI (sp_r S r w) := by
  have h1 := (H.2.2.1 r hr).1 w hw
  rwa [show 420 * 0 + 180 + 24 * r + w = 180 + 24 * r + w by omega] at h1
theorem pm_zA (H : sm_S S 0 h) {r b : Nat} (hr : r < sp_nr S) (hb : b < 20) : mh_I h 353 (180 + 24 * r + (4 + b)) = nI (sp_al S r b) := by
  have h1 := (H.2.2.1 r hr).2 b hb
  rwa [show 420 * 0 + 184 + 24 * r + b = 180 + 24 * r + (4 + b) by omega] at h1
theorem pm_b (H : sm_S S 0 h) (ok : sp_ok S) {b w : Nat} {x : Int32} (hw : x = nI w) (hb : b < sp_nb S) (h4 : w < 4) : gX11_ofBatch (nI b) x h = some (nI (sp_b S b w)) := by
  have h1 := pc_b20 ok hb
  rw [pm_ofB hw (by omega) h4, pm_zB H hb h4]
theorem pm_r (H : sm_S S 0 h) (ok : sp_ok S) {r w : Nat} {x : Int32} (hw : x = nI w) (hr : r < sp_nr S) (h4 : w < 4) : gX11_ofReservation (nI r) x h = some (nI (sp_r S r w)) := by
  have h1 := pc_r10 ok hr
  rw [pm_ofR hw (by omega) (by omega), pm_zR H hr h4]
theorem pm_a (H : sm_S S 0 h) (ok : sp_ok S) {r b : Nat} (hr : r < sp_nr S) (hb : b < 20) : gX11_ofReservation (nI r) (4 + nI b) h = some (nI (sp_al S r b)) := by
  have h1 := pc_r10 ok hr
  rw [pm_ofR (w := 4 + b) (by rw [← nI_add]; rfl) (by omega) (by omega), pm_zA H hr hb]
theorem pm_lt (H : sm_S S 0 h) (ok : sp_ok S) {i : Nat} (hi : i < sp_nb S) : nI i < mh_I h 353 (Int32.toNatClampNeg 2) := by
  rw [pm_nb H]
  have := ok.1.2.1
  exact nI_lt hi (by omega)
theorem pm_nlt (H : sm_S S 0 h) (ok : sp_ok S) : ¬ nI (sp_nb S) < mh_I h 353 (Int32.toNatClampNeg 2) := by
  rw [pm_nb H]
  have := ok.1.2.1
  exact nI_nlt (Nat.le_refl _) (by omega)
theorem pm_ltR (H : sm_S S 0 h) (ok : sp_ok S) {i : Nat} (hi : i < sp_nr S) : nI i < mh_I h 353 (Int32.toNatClampNeg 3) := by
  rw [pm_nr H]
  have := ok.1.2.2
  exact nI_lt hi (by omega)
theorem pm_nltR (H : sm_S S 0 h) (ok : sp_ok S) : ¬ nI (sp_nr S) < mh_I h 353 (Int32.toNatClampNeg 3) := by
  rw [pm_nr H]
  have := ok.1.2.2
  exact nI_nlt (Nat.le_refl _) (by omega)
theorem pm_nrF (ok : sp_ok S) : sp_nr S - 0 < mm_F := Nat.lt_of_le_of_lt (Nat.sub_le _ _) (Nat.lt_of_le_of_lt ok.1.2.2 (by decide))
theorem pm_open (H : sm_S S 0 h) (ok : sp_ok S) {r : Nat} (hr : r < sp_nr S) : gX11_isOpenOne (nI r) h = some (decide (sp_r S r 3 = 0)) := by
  unfold gX11_isOpenOne
  rw [pm_r H ok (x := 3) (w := 3) rfl hr (by decide)]
  have h1 := (ok.2.2 r hr).2.2.2.1
  exact po_bool (nI_eq (b := 0) (by omega) (by omega))
theorem pm_held (H : sm_S S 0 h) (ok : sp_ok S) {b : Nat} (hb : b < 20) : gX11_held (nI b) h = some (nI (sp_held S b)) := by
  refine po_loopF (fun n i s => gX11_held_L4 (nI b) h n (nI s) (nI i)) (sp_nr S) (sp_sum (fun r => if sp_r S r 3 = 0 then sp_al S r b else 0)) _ (fun n => ?_) (fun n i hi => ?_) mm_F 0 (Nat.zero_le _) (pm_nrF ok)
  · try dsimp only
    rw [gX11_held_L4, if_pos po_m3, if_neg (pm_nltR H ok)]
    rfl
  · try dsimp only
    rw [gX11_held_L4, if_pos po_m3, if_pos (pm_ltR H ok hi), pm_open H ok hi]
    simp only [mm_jn, Option.bind_some, nI_1, sp_sum]
    by_cases hc : sp_r S i 3 = 0
    · rw [if_pos (decide_eq_true hc), if_pos hc, pm_a H ok hi hb]
      simp only [Option.bind_some, nI_add]
    · rw [if_neg (by rw [decide_eq_false hc]; decide), if_neg hc, show (0 : Int32) = nI 0 from rfl]
      simp only [nI_add]
theorem pm_free (H : sm_S S 0 h) (ok : sp_ok S) {b : Nat} (hb : b < sp_nb S) : gX11_free (nI b) h = some (nI (sp_free S b)) := by
  unfold gX11_free
  rw [pm_b H ok (x := 1) (w := 1) rfl hb (by decide)]
  simp only [Option.bind_some]
  rw [pm_held H ok (pc_b20 ok hb)]
  exact congrArg some (pk_sub (sp_held_le ok hb))
theorem pm_past (H : sm_S S 0 h) (ok : sp_ok S) {b : Nat} (hb : b < sp_nb S) : gX11_isPast (nI b) h = some (decide (sp_b S b 2 < sp_dy S)) := by
  unfold gX11_isPast
  rw [pm_b H ok (x := 2) (w := 2) rfl hb (by decide)]
  simp only [Option.bind_some]
  have h1 := (ok.2.1 b hb).2.2.1
  have h2 := ok.1.1
  rw [if_pos po_m0, pm_dy H]
  exact po_bool (nI_ltI (by omega) (by omega))
theorem pm_isOf (H : sm_S S 0 h) (ok : sp_ok S) {b p : Nat} (hb : b < sp_nb S) (hp : p < 2 ^ 31) : gX11_isOf (nI b) (nI p) h = some (decide (sp_b S b 0 = p)) := by
  unfold gX11_isOf
  rw [pm_b H ok (x := 0) (w := 0) rfl hb (by decide)]
  have h1 := (ok.2.1 b hb).1
  exact po_bool (nI_eq (by omega) hp)
/-- a batch from which a product can be taken on a day -/
def sp_el (S : sp_S) (p d b : Nat) : Bool := decide (sp_b S b 0 = p ∧ d ≤ sp_b S b 2 ∧ 0 < sp_free S b)
theorem pm_can (H : sm_S S 0 h) (ok : sp_ok S) {b p d : Nat} (hb : b < sp_nb S) (hp : p < 2 ^ 31) (hd : d < 2 ^ 31) : gX11_canTake (nI b) (nI p) (nI d) h = some (sp_el S p d b) := by
  unfold gX11_canTake sp_el
  rw [pm_isOf H ok hb hp]
  simp only [Option.bind_some]
  have h1 := (ok.2.1 b hb).2.2.1
  have h2 := sp_free_le ok hb
  by_cases hc : sp_b S b 0 = p
  · rw [if_pos (decide_eq_true hc), pm_b H ok (x := 2) (w := 2) rfl hb (by decide)]
    simp only [Option.bind_some]
    by_cases hc2 : d ≤ sp_b S b 2
    · rw [if_neg (nI_nlt hc2 (by omega)), pm_free H ok hb]
      simp only [Option.bind_some]
      have h9 : ((0 : Int32) < nI (sp_free S b)) ↔ (sp_b S b 0 = p ∧ d ≤ sp_b S b 2 ∧ 0 < sp_free S b) := (nI_ltI (a := 0) (by omega) (by omega)).trans ⟨fun z => ⟨hc, hc2, z⟩, fun z => z.2.2⟩
      exact po_bool h9
    · rw [if_pos (nI_lt (by omega) hd)]
      simp only [hc2, false_and, and_false, decide_false]
  · rw [if_neg (by rw [decide_eq_false hc]; decide)]
    simp only [hc, false_and, decide_false]
theorem pm_avail (H : sm_S S 0 h) (ok : sp_ok S) {p d : Nat} (hp : p < 2 ^ 31) (hd : d < 2 ^ 31) : gX11_available (nI p) (nI d) h = some (nI (sp_av S p d)) := by
  refine po_loopF (fun n i s => gX11_available_L5 (nI p) (nI d) h n (nI s) (nI i)) (sp_nb S) (sp_sum (fun b => if sp_b S b 0 = p ∧ d ≤ sp_b S b 2 then sp_free S b else 0)) _ (fun n => ?_) (fun n i hi => ?_) mm_F 0 (Nat.zero_le _) (pc_nbF ok)
  · try dsimp only
    rw [gX11_available_L5, if_pos po_m2, if_neg (pm_nlt H ok)]
    rfl
  · try dsimp only
    rw [gX11_available_L5, if_pos po_m2, if_pos (pm_lt H ok hi), pm_can H ok hi hp hd]
    simp only [mm_jn, Option.bind_some, nI_1, sp_sum]
    by_cases hc : sp_el S p d i = true
    · have hc' := of_decide_eq_true hc
      rw [if_pos hc, if_pos ⟨hc'.1, hc'.2.1⟩, pm_free H ok hi]
      simp only [Option.bind_some, nI_add]
    · have hc' : ¬ (sp_b S i 0 = p ∧ d ≤ sp_b S i 2 ∧ 0 < sp_free S i) := fun z => hc (decide_eq_true z)
      have h9 : (if sp_b S i 0 = p ∧ d ≤ sp_b S i 2 then sp_free S i else 0) = 0 := by
        split
        · rename_i h8
          have : ¬ 0 < sp_free S i := fun z => hc' ⟨h8.1, h8.2, z⟩
          omega
        · rfl
      rw [if_neg hc, h9, show (0 : Int32) = nI 0 from rfl]
      simp only [nI_add]
theorem pm_alls (H : sm_S S 0 h) (ok : sp_ok S) {r : Nat} (hr : r < sp_nr S) : gX11_allocated (nI r) h = some (nI (sp_alls S r)) := by
  refine po_loopF (fun n i s => gX11_allocated_L4 (nI r) h n (nI s) (nI i)) (sp_nb S) (sp_sum (fun b => sp_al S r b)) _ (fun n => ?_) (fun n i hi => ?_) mm_F 0 (Nat.zero_le _) (pc_nbF ok)
  · try dsimp only
    rw [gX11_allocated_L4, if_pos po_m2, if_neg (pm_nlt H ok)]
    rfl
  · try dsimp only
    rw [gX11_allocated_L4, if_pos po_m2, if_pos (pm_lt H ok hi), pm_a H ok hr (pc_b20 ok hi)]
    simp only [Option.bind_some, nI_1, sp_sum, nI_add]
theorem pm_lack (H : sm_S S 0 h) (ok : sp_ok S) {r : Nat} (hr : r < sp_nr S) : gX11_lacking (nI r) h = some (nI (sp_lack S r)) := by
  unfold gX11_lacking sp_lack
  rw [pm_open H ok hr]
  simp only [Option.bind_some]
  by_cases hc : sp_r S r 3 = 0
  · rw [if_pos (decide_eq_true hc), if_pos hc, pm_r H ok (x := 1) (w := 1) rfl hr (by decide)]
    simp only [Option.bind_some]
    rw [pm_alls H ok hr]
    exact congrArg some (pk_sub ((ok.2.2 r hr).2.2.2.2.2 hc))
  · rw [if_neg (by rw [decide_eq_false hc]; decide), if_neg hc]
    rfl
theorem pm_stock (H : sm_S S 0 h) (ok : sp_ok S) {p : Nat} (hp : p < 2 ^ 31) : gX11_stock (nI p) h = some (nI (sp_stock S p)) := by
  refine po_loopF (fun n i s => gX11_stock_L4 (nI p) h n (nI s) (nI i)) (sp_nb S) (sp_sum (fun b => if sp_b S b 0 = p then sp_b S b 1 else 0)) _ (fun n => ?_) (fun n i hi => ?_) mm_F 0 (Nat.zero_le _) (pc_nbF ok)
  · try dsimp only
    rw [gX11_stock_L4, if_pos po_m2, if_neg (pm_nlt H ok)]
    rfl
  · try dsimp only
    rw [gX11_stock_L4, if_pos po_m2, if_pos (pm_lt H ok hi), pm_isOf H ok hi hp]
    simp only [mm_jn, Option.bind_some, nI_1, sp_sum]
    by_cases hc : sp_b S i 0 = p
    · rw [if_pos (decide_eq_true hc), if_pos hc, pm_b H ok (x := 1) (w := 1) rfl hi (by decide)]
      simp only [Option.bind_some, nI_add]
    · rw [if_neg (by rw [decide_eq_false hc]; decide), if_neg hc, show (0 : Int32) = nI 0 from rfl]
      simp only [nI_add]
theorem pm_worth (H : sm_S S 0 h) (ok : sp_ok S) {p : Nat} (hp : p < 2 ^ 31) : gX11_worth (nI p) h = some (nI (sp_worth S p)) := by
  refine po_loopF (fun n i s => gX11_worth_L4 (nI p) h n (nI s) (nI i)) (sp_nb S) (sp_sum (fun b => if sp_b S b 0 = p then sp_b S b 1 * sp_b S b 3 else 0)) _ (fun n => ?_) (fun n i hi => ?_) mm_F 0 (Nat.zero_le _) (pc_nbF ok)
  · try dsimp only
    rw [gX11_worth_L4, if_pos po_m2, if_neg (pm_nlt H ok)]
    rfl
  · try dsimp only
    rw [gX11_worth_L4, if_pos po_m2, if_pos (pm_lt H ok hi), pm_isOf H ok hi hp]
    simp only [mm_jn, Option.bind_some, nI_1, sp_sum]
    by_cases hc : sp_b S i 0 = p
    · rw [if_pos (decide_eq_true hc), if_pos hc, pm_b H ok (x := 1) (w := 1) rfl hi (by decide)]
      simp only [Option.bind_some]
      rw [pm_b H ok (x := 3) (w := 3) rfl hi (by decide)]
      simp only [Option.bind_some, nI_add, pk_mul]
    · rw [if_neg (by rw [decide_eq_false hc]; decide), if_neg hc, show (0 : Int32) = nI 0 from rfl]
      simp only [nI_add]
theorem pm_why (H : sm_S S 0 h) (ok : sp_ok S) {r : Nat} (hr : r < sp_nr S) : gX11_shippingReason (nI r) h = some (nI (sp_why S r)) := by
  have key : ∀ n i, i ≤ sp_nb S → sp_nb S - i < n → (∀ j, j < i → decide (0 < sp_al S r j ∧ sp_b S j 2 < sp_dy S) = false) → gX11_shippingReason_L22 (nI r) h n (nI i) = some (nI (if sp_holds S r (sp_dy S) = true then 3 else 0)) := by
    intro n
    induction n with
    | zero => intro i _ h9; omega
    | succ n ih =>
      intro i h1 h2 h3
      rw [gX11_shippingReason_L22, if_pos po_m2]
      rcases Nat.lt_or_ge i (sp_nb S) with hi | hi
      · rw [if_pos (pm_lt H ok hi), pm_a H ok hr (pc_b20 ok hi)]
        simp only [mm_jn, Option.bind_some, nI_1]
        have h4 := ((ok.2.2 r hr).2.2.2.2.1 i (pc_b20 ok hi)).1
        by_cases hc : 0 < sp_al S r i
        · rw [if_pos (po_0lt hc (by omega)), pm_past H ok hi]
          simp only [Option.bind_some]
          by_cases hc2 : sp_b S i 2 < sp_dy S
          · rw [if_pos (decide_eq_true hc2), show sp_holds S r (sp_dy S) = true from sp_any_from hi h3 (decide_eq_true ⟨hc, hc2⟩)]
            rfl
          · rw [if_neg (by rw [decide_eq_false hc2]; decide)]
            exact ih (i + 1) (by omega) (by omega) (lt_s h3 (decide_eq_false (fun z => hc2 z.2)))
        · rw [if_neg (po_n0lt hc)]
          exact ih (i + 1) (by omega) (by omega) (lt_s h3 (decide_eq_false (fun z => hc z.1)))
      · have h4 : i = sp_nb S := by omega
        subst h4
        rw [if_neg (pm_nlt H ok), show sp_holds S r (sp_dy S) = false from sp_any_no h3]
        rfl
  unfold gX11_shippingReason sp_why
  rw [pm_open H ok hr]
  simp only [Option.bind_some]
  by_cases hc : sp_r S r 3 = 0
  · rw [if_pos (decide_eq_true hc), if_pos hc, pm_lack H ok hr]
    simp only [Option.bind_some]
    have h1 : sp_lack S r ≤ 9999 := by
      have := (ok.2.2 r hr).2.1
      unfold sp_lack
      split <;> omega
    by_cases hc2 : 0 < sp_lack S r
    · rw [if_pos (po_0lt hc2 (by omega)), if_pos hc2]
      rfl
    · rw [if_neg (po_n0lt (by omega)), if_neg hc2]
      exact key mm_F 0 (Nat.zero_le _) (pc_nbF ok) (fun j hj => absurd hj (Nat.not_lt_zero j))
  · rw [if_neg (by rw [decide_eq_false hc]; decide), if_neg hc]
    rfl
theorem pm_endg (H : sm_S S 0 h) (ok : sp_ok S) {r : Nat} (hr : r < sp_nr S) : gX11_isEndangered (nI r) h = some (sp_endg S r) := by
  have key : ∀ n i, i ≤ sp_nb S → sp_nb S - i < n → (∀ j, j < i → decide (0 < sp_al S r j ∧ sp_b S j 2 < max (sp_r S r 2) (sp_dy S)) = false) → gX11_isEndangered_L12 (nI r) h n (nI i) = some (sp_holds S r (max (sp_r S r 2) (sp_dy S))) := by
    intro n
    induction n with
    | zero => intro i _ h9; omega
    | succ n ih =>
      intro i h1 h2 h3
      rw [gX11_isEndangered_L12, if_pos po_m2]
      rcases Nat.lt_or_ge i (sp_nb S) with hi | hi
      · rw [if_pos (pm_lt H ok hi), pm_a H ok hr (pc_b20 ok hi)]
        simp only [mm_jn, Option.bind_some, nI_1]
        have h4 := ((ok.2.2 r hr).2.2.2.2.1 i (pc_b20 ok hi)).1
        have h5 := (ok.2.1 i hi).2.2.1
        have h6 := (ok.2.2 r hr).2.2.1
        by_cases hc : sp_al S r i = 0
        · rw [if_pos (by rw [hc]; rfl)]
          exact ih (i + 1) (by omega) (by omega) (lt_s h3 (decide_eq_false (fun z => by omega)))
        · rw [if_neg (nI_ne0 (by omega) (by omega)), pm_past H ok hi]
          simp only [Option.bind_some]
          by_cases hc2 : sp_b S i 2 < sp_dy S
          · rw [if_pos (decide_eq_true hc2)]
            exact congrArg some (Eq.symm (sp_any_from hi h3 (decide_eq_true ⟨by omega, by omega⟩)))
          · rw [if_neg (by rw [decide_eq_false hc2]; decide), pm_b H ok (x := 2) (w := 2) rfl hi (by decide)]
            simp only [Option.bind_some]
            rw [pm_r H ok (x := 2) (w := 2) rfl hr (by decide)]
            simp only [Option.bind_some]
            by_cases hc3 : sp_b S i 2 < sp_r S r 2
            · rw [if_pos (nI_lt hc3 (by omega))]
              exact congrArg some (Eq.symm (sp_any_from hi h3 (decide_eq_true ⟨by omega, by omega⟩)))
            · rw [if_neg (nI_nlt (by omega) (by omega))]
              exact ih (i + 1) (by omega) (by omega) (lt_s h3 (decide_eq_false (fun z => by omega)))
      · have h4 : i = sp_nb S := by omega
        subst h4
        rw [if_neg (pm_nlt H ok)]
        exact congrArg some (Eq.symm (sp_any_no h3))
  unfold gX11_isEndangered sp_endg
  rw [pm_open H ok hr]
  simp only [Option.bind_some]
  by_cases hc : sp_r S r 3 = 0
  · rw [if_pos (decide_eq_true hc), decide_eq_true hc, Bool.true_and]
    exact key mm_F 0 (Nat.zero_le _) (pc_nbF ok) (fun j hj => absurd hj (Nat.not_lt_zero j))
  · rw [if_neg (by rw [decide_eq_false hc]; decide), decide_eq_false hc, Bool.false_and]
end PPD

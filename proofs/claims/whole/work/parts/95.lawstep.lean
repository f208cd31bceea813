section PRG
/-! the law: one call on both sides (gen95.py) -/
variable {A : sp_A} {h : mm_H}
def lw_R (A : sp_A) (h : mm_H) : Prop := sa_ok A ∧ ra_c A h ∧ ra_m A h
/-- what a call leaves: the script, and at most one object more -/
def lw_st (h h' : mm_H) : Prop := mh_n h' = mh_n h ∧ mh_c h' ≤ mh_c h + 1 ∧ mh_w h' ≤ mh_w h + 6 ∧ mh_I h' 360 = mh_I h 360
section
variable {β : Type}
def lw_W (p : β → Prop) (put : mm_H → β → mm_H) (c : String → Option Int32) (G : mm_H → Option ((β ⊕ String) × mm_H)) (W : mm_H → Option (Int32 × mm_H)) : Prop :=
  (∀ h v h4, p v → G h = some (.inl v, h4) → W h = some (0, put h4 v)) ∧ ∀ h E t h4, G h = some (.inr E, h4) → c E = some t → W h = some (t, h4)
def op_runp (p : β → Prop) (c : String → Option Int32) (G : mm_H → Option ((β ⊕ String) × mm_H)) (M : mm_H → Option (β × mm_H)) : Prop := ∀ A, sa_ok A → ∃ A', sa_ok A' ∧ ((∃ v, p v ∧ op_cw G A v A' ∧ op_m M A 0 v A') ∨ ∃ E t v, c E = some t ∧ ¬ t = 0 ∧ op_xw G A E A' ∧ op_m M A t v A')
theorem op_runp_w {c : String → Option Int32} {G : mm_H → Option ((β ⊕ String) × mm_H)} {M : mm_H → Option (β × mm_H)} (H : op_runw c G M) : op_runp (fun _ => True) c G M := fun A ok => by
  obtain ⟨A', ok', h⟩ := H A ok
  refine ⟨A', ok', ?_⟩
  rcases h with ⟨v, h1, h2⟩ | h
  · exact Or.inl ⟨v, trivial, h1, h2⟩
  · exact Or.inr h
theorem ra_m_fw {h' : mm_H} (H : ra_m A h) (ok : sa_ok A) (hI : ∀ q, 352 ≤ q → ∀ k, mh_I h' q k = mh_I h q k) : ra_m A h' :=
  ra_m_fr H ok (fun k _ => hI 353 (by decide) k) (fun k _ => hI 352 (by decide) k) (fun k => hI 354 (by decide) k) (fun k => hI 355 (by decide) k) (fun k => hI 356 (by decide) k)
theorem po_fcf {q : Nat} (hq : 352 ≤ q) : po_fc q = false := decide_eq_false (by omega)
theorem po_fmf {q : Nat} (hq : q < 352 ∨ 358 ≤ q) : po_fm q = false := decide_eq_false (by omega)
theorem lw_at {p : β → Prop} {put : mm_H → β → mm_H} {c : String → Option Int32} {G : mm_H → Option ((β ⊕ String) × mm_H)} {M : mm_H → Option (β × mm_H)} {W : mm_H → Option (Int32 × mm_H)} (op : op_runp p c G M) (hw : lw_W p put c G W) (hp : ∀ h v, mh_I (put h v) = mh_I h ∧ (put h v).1 = h.1) (H : lw_R A h) :
    ∃ A' h1 h2 t v, W h = some (t, h1) ∧ mh_I h1 360 = mh_I h 360 ∧ M h1 = some (v, h2) ∧ mh_I h2 352 9 = t ∧ (t = 0 → p v ∧ ∃ x, mh_J h2 = mh_J (put x v) ∧ mh_D h2 = mh_D (put x v)) ∧ lw_R A' h2 ∧ lw_st h h2 := by
  obtain ⟨ok, Hc, Hm⟩ := H
  obtain ⟨A', ok', hh⟩ := op A ok
  rcases hh with ⟨v, pv, hG, hM⟩ | ⟨E, t, v, hc, ht, hG, hM⟩
  · obtain ⟨h1, e1, r1, f1⟩ := hG h Hc
    obtain ⟨p1, p2⟩ := hp h1 v
    have Hm1 : ra_m A (put h1 v) := ra_m_fw Hm ok (fun q hq k => by rw [p1]; exact f1.1 q (po_fcf hq) k)
    obtain ⟨h2, e2, e3, r2, f2⟩ := hM _ Hm1
    have Hc2 : ra_c A' h2 := ra_c_fr (ra_c_X r1 p1) f2 (fun q hq => po_fmf (Or.inl (by omega)))
    have k1 : mh_I (put h1 v) 360 = mh_I h 360 := funext (fun k => by rw [p1]; exact f1.1 360 (po_fcf (by decide)) k)
    have k2 : mh_I h2 360 = mh_I h 360 := (funext (fun k => f2.1 360 (po_fmf (by decide)) k)).trans k1
    have k3 : h2.1 = h.1 := f2.2.1.trans (p2.trans f1.2.1)
    refine ⟨A', put h1 v, h2, 0, v, hw.1 h v h1 pv e1, k1, e2, e3, fun _ => ⟨pv, h1, f2.2.2.2.1, f2.2.2.2.2⟩, ⟨ok', Hc2, r2⟩, ?_, ?_, ?_, k2⟩
    · show h2.1.1 = h.1.1
      rw [k3]
    · show h2.1.2.1 ≤ h.1.2.1 + 1
      rw [k3]
      exact Nat.le_succ _
    · show h2.1.2.2 ≤ h.1.2.2 + 6
      rw [k3]
      exact Nat.le_add_right _ _
  · obtain ⟨h1, e1, r1, f1⟩ := hG h Hc
    have Hm1 : ra_m A (ms_X h1) := ra_m_fw Hm ok (fun q hq k => f1.1 q (po_fcf hq) k)
    obtain ⟨h2, e2, e3, r2, f2⟩ := hM _ Hm1
    have Hc2 : ra_c A' h2 := ra_c_fr (ra_c_X (h' := ms_X h1) r1 rfl) f2 (fun q hq => po_fmf (Or.inl (by omega)))
    have k1 : mh_I (ms_X h1) 360 = mh_I h 360 := funext (fun k => f1.1 360 (po_fcf (by decide)) k)
    have k2 : mh_I h2 360 = mh_I h 360 := (funext (fun k => f2.1 360 (po_fmf (by decide)) k)).trans k1
    have k3 : h2.1 = (h.1.1, h.1.2.1 + 1, h.1.2.2 + 6) := by
      rw [f2.2.1]
      show (h1.1.1, h1.1.2.1 + 1, h1.1.2.2 + 6) = _
      rw [f1.2.1]
    refine ⟨A', ms_X h1, h2, t, v, hw.2 h E t _ e1 hc, k1, e2, e3, fun z => absurd z ht, ⟨ok', Hc2, r2⟩, ?_, ?_, ?_, k2⟩
    · show h2.1.1 = h.1.1
      rw [k3]
    · show h2.1.2.1 ≤ h.1.2.1 + 1
      rw [k3]
      exact Nat.le_refl _
    · show h2.1.2.2 ≤ h.1.2.2 + 6
      rw [k3]
      exact Nat.le_refl _
/-- a call that throws nothing -/
theorem lw_pl {G : mm_H → Option β} {M : mm_H → Option (β × mm_H)} (op : op_pl G M) (H : lw_R A h) : ∃ h2 v, G h = some v ∧ M h = some (v, h2) ∧ lw_R A h2 ∧ lw_st h h2 := by
  obtain ⟨ok, Hc, Hm⟩ := H
  obtain ⟨v, hG, hM⟩ := op A ok
  refine ⟨ms_I h 352 9 0, v, hG h Hc, hM h Hm, ⟨ok, ra_c_fr Hc po_fm9 (fun q hq => po_fmf (Or.inl (by omega))), ra_m_9 Hm ok⟩, rfl, Nat.le_succ _, Nat.le_add_right _ _, funext (fun k => po_I3 (by decide))⟩
end
theorem po_ib1 : mm_ibd 0 1 = true := by decide
def lw_pJ (h : mm_H) (v : Int32) : mm_H := ms_J h 358 0 v.toInt64
def lw_pB (h : mm_H) (v : Bool) : mm_H := ms_J h 358 0 (if v = true then 1 else 0)
def lw_pD (h : mm_H) (v : UInt64) : mm_H := ms_D h 359 0 v
def lw_pF (h : mm_H) (v : UInt32) : mm_H := ms_D h 359 0 (FP.f2d v)
theorem lw_c1 {E1 E : String} {t : Int32} (hc : lc_1 E1 E = some t) : (if E = E1 then some ((1 : Int32), h) else none) = some (t, h) := by
  unfold lc_1 at hc
  by_cases h1 : E = E1
  · rw [if_pos h1] at hc ⊢
    rw [← Option.some.inj hc]
  · rw [if_neg h1] at hc
    cases hc
theorem lw_c2 {E1 E2 E : String} {t : Int32} (hc : lc_2 E1 E2 E = some t) : (if E = E1 then some ((1 : Int32), h) else if E = E2 then some (2, h) else none) = some (t, h) := by
  unfold lc_2 at hc
  by_cases h1 : E = E1
  · rw [if_pos h1] at hc ⊢
    rw [← Option.some.inj hc]
  · rw [if_neg h1] at hc ⊢
    by_cases h2 : E = E2
    · rw [if_pos h2] at hc ⊢
      rw [← Option.some.inj hc]
    · rw [if_neg h2] at hc
      cases hc
theorem lw_c3 {E1 E2 E3 E : String} {t : Int32} (hc : lc_3 E1 E2 E3 E = some t) : (if E = E1 then some ((1 : Int32), h) else if E = E2 then some (2, h) else if E = E3 then some (3, h) else none) = some (t, h) := by
  unfold lc_3 at hc
  by_cases h1 : E = E1
  · rw [if_pos h1] at hc ⊢
    rw [← Option.some.inj hc]
  · rw [if_neg h1] at hc ⊢
    by_cases h2 : E = E2
    · rw [if_pos h2] at hc ⊢
      rw [← Option.some.inj hc]
    · rw [if_neg h2] at hc ⊢
      by_cases h3 : E = E3
      · rw [if_pos h3] at hc ⊢
        rw [← Option.some.inj hc]
      · rw [if_neg h3] at hc
        cases hc
theorem lw_up {α : Type} {f : Nat → Nat → α} {o k : Nat} {v : α} : mm_up f o k v o k = v := by
  unfold mm_up
  exact if_pos ⟨rfl, rfl⟩
theorem lw_cmp (x : mm_H) (v : Int64) : lg_cmp (mh_J (ms_J x 358 0 v) 358 (Int32.toNatClampNeg 0)) v = 0 := by
  have e : mh_J (ms_J x 358 0 v) 358 (Int32.toNatClampNeg 0) = v := show mm_up (mh_J x) 358 0 v 358 0 = v from lw_up
  rw [e]
  unfold lg_cmp
  rw [if_neg (show ¬ v > v from Int64.lt_irrefl), if_pos rfl]
theorem lw_D (x : mm_H) (v : UInt64) : mh_D (ms_D x 359 0 v) 359 (Int32.toNatClampNeg 0) = v := show mm_up (mh_D x) 359 0 v 359 0 = v from lw_up
theorem lw_ci (a : Int) : compare a a = .eq := by
  show compareOfLessAndEq a a = _
  unfold compareOfLessAndEq
  rw [if_neg (Int.lt_irrefl a), if_pos rfl]
theorem lw_self {d : FP.Core.Datum} (h : ¬ d = .nan) : FP.Core.order d d = some .eq := by
  cases d with
  | nan => exact absurd rfl h
  | inf s => cases s <;> rfl
  | fin s c q =>
    show some (compare _ _) = _
    exact congrArg some (lw_ci _)
theorem lw_nn {v : UInt64} (hv : mm_n64 v = true) : (Op.cmpValue (FP.dcmp v v) .l) = 0 := by
  have h1 : ¬ FP.Core.decode FP.Core.b64 v.toNat = .nan := by
    have h2 := of_decide_eq_true hv
    rw [UInt64.le_iff_toNat_le, UInt64.toNat_and, show (0x7fffffffffffffff : UInt64).toNat = 2 ^ 63 - 1 by decide, Nat.and_two_pow_sub_one_eq_mod, show (0x7ff0000000000000 : UInt64).toNat = 9218868437227405312 by decide] at h2
    unfold FP.Core.decode
    by_cases h3 : FP.Core.fieldE FP.Core.b64 v.toNat = FP.Core.b64.exps - 1
    · rw [if_pos h3]
      have h4 : FP.Core.fieldT FP.Core.b64 v.toNat = 0 := by
        unfold FP.Core.fieldT
        unfold FP.Core.fieldE at h3
        rw [fl_tail64, fl_exps64] at h3
        rw [fl_tail64]
        omega
      rw [if_pos h4]
      exact fun z => by cases z
    · rw [if_neg h3]
      by_cases h4 : FP.Core.fieldE FP.Core.b64 v.toNat = 0
      · rw [if_pos h4]
        exact fun z => by cases z
      · rw [if_neg h4]
        exact fun z => by cases z
  have h5 : FP.dcmp v v = some .eq := lw_self h1
  rw [h5]
  rfl
theorem lw_append (a b c d e : Int32) : lw_W (fun _ => True) lw_pJ (lc_1 po_IS) (gX10_append a b c d e) (gL_append a b c d e) := ⟨fun h v h4 _ e => by
  unfold gL_append
  rw [e, Option.bind_some]
  dsimp only
  rw [if_pos po_ib1, Option.bind_some]
  rfl, fun h E t h4 e hc => by
  unfold gL_append
  rw [e]
  exact lw_c1 hc⟩
theorem lw_truncate (x : Int32) : lw_W (fun _ => True) lw_pJ (lc_1 po_IA) (gX10_truncate x) (gL_truncate x) := ⟨fun h v h4 _ e => by
  unfold gL_truncate
  rw [e, Option.bind_some]
  dsimp only
  rw [if_pos po_ib1, Option.bind_some]
  rfl, fun h E t h4 e hc => by
  unfold gL_truncate
  rw [e]
  exact lw_c1 hc⟩
theorem lw_load : lw_W (fun _ => True) lw_pJ (lc_1 po_IA) (gX10_load) (gL_load) := ⟨fun h v h4 _ e => by
  unfold gL_load
  rw [e, Option.bind_some]
  dsimp only
  rw [if_pos po_ib1, Option.bind_some]
  rfl, fun h E t h4 e hc => by
  unfold gL_load
  rw [e]
  exact lw_c1 hc⟩
theorem lw_nameByte (x y : Int32) : lw_W (fun _ => True) lw_pJ (lc_1 po_IO) (gX10_nameByte x y) (gL_nameByte x y) := ⟨fun h v h4 _ e => by
  unfold gL_nameByte
  rw [e, Option.bind_some]
  dsimp only
  rw [if_pos po_ib1, Option.bind_some]
  rfl, fun h E t h4 e hc => by
  unfold gL_nameByte
  rw [e]
  exact lw_c1 hc⟩
theorem lw_findProduct : lw_W (fun _ => True) lw_pJ (lc_1 po_NS) (gX10_findProduct) (gL_findProduct) := ⟨fun h v h4 _ e => by
  unfold gL_findProduct
  rw [e, Option.bind_some]
  dsimp only
  rw [if_pos po_ib1, Option.bind_some]
  rfl, fun h E t h4 e hc => by
  unfold gL_findProduct
  rw [e]
  exact lw_c1 hc⟩
theorem lw_minimumStock (x : Int32) : lw_W (fun _ => True) lw_pJ (lc_1 po_IO) (gX10_minimumStock x) (gL_minimumStock x) := ⟨fun h v h4 _ e => by
  unfold gL_minimumStock
  rw [e, Option.bind_some]
  dsimp only
  rw [if_pos po_ib1, Option.bind_some]
  rfl, fun h E t h4 e hc => by
  unfold gL_minimumStock
  rw [e]
  exact lw_c1 hc⟩
theorem lw_onHand (x : Int32) : lw_W (fun _ => True) lw_pJ (lc_1 po_IO) (gX10_onHand x) (gL_onHand x) := ⟨fun h v h4 _ e => by
  unfold gL_onHand
  rw [e, Option.bind_some]
  dsimp only
  rw [if_pos po_ib1, Option.bind_some]
  rfl, fun h E t h4 e hc => by
  unfold gL_onHand
  rw [e]
  exact lw_c1 hc⟩
theorem lw_reserved (x : Int32) : lw_W (fun _ => True) lw_pJ (lc_1 po_IO) (gX10_reserved x) (gL_reserved x) := ⟨fun h v h4 _ e => by
  unfold gL_reserved
  rw [e, Option.bind_some]
  dsimp only
  rw [if_pos po_ib1, Option.bind_some]
  rfl, fun h E t h4 e hc => by
  unfold gL_reserved
  rw [e]
  exact lw_c1 hc⟩
theorem lw_availableOn (x y : Int32) : lw_W (fun _ => True) lw_pJ (lc_2 po_IO po_IA) (gX10_availableOn x y) (gL_availableOn x y) := ⟨fun h v h4 _ e => by
  unfold gL_availableOn
  rw [e, Option.bind_some]
  dsimp only
  rw [if_pos po_ib1, Option.bind_some]
  rfl, fun h E t h4 e hc => by
  unfold gL_availableOn
  rw [e]
  exact lw_c2 hc⟩
theorem lw_expired (x : Int32) : lw_W (fun _ => True) lw_pJ (lc_1 po_IO) (gX10_expired x) (gL_expired x) := ⟨fun h v h4 _ e => by
  unfold gL_expired
  rw [e, Option.bind_some]
  dsimp only
  rw [if_pos po_ib1, Option.bind_some]
  rfl, fun h E t h4 e hc => by
  unfold gL_expired
  rw [e]
  exact lw_c1 hc⟩
theorem lw_expiringWithin (x y : Int32) : lw_W (fun _ => True) lw_pJ (lc_2 po_IO po_IA) (gX10_expiringWithin x y) (gL_expiringWithin x y) := ⟨fun h v h4 _ e => by
  unfold gL_expiringWithin
  rw [e, Option.bind_some]
  dsimp only
  rw [if_pos po_ib1, Option.bind_some]
  rfl, fun h E t h4 e hc => by
  unfold gL_expiringWithin
  rw [e]
  exact lw_c2 hc⟩
theorem lw_stockValue (x : Int32) : lw_W (fun _ => True) lw_pJ (lc_1 po_IO) (gX10_stockValue x) (gL_stockValue x) := ⟨fun h v h4 _ e => by
  unfold gL_stockValue
  rw [e, Option.bind_some]
  dsimp only
  rw [if_pos po_ib1, Option.bind_some]
  rfl, fun h E t h4 e hc => by
  unfold gL_stockValue
  rw [e]
  exact lw_c1 hc⟩
theorem lw_reorderQuantity (x : Int32) : lw_W (fun _ => True) lw_pJ (lc_1 po_IO) (gX10_reorderQuantity x) (gL_reorderQuantity x) := ⟨fun h v h4 _ e => by
  unfold gL_reorderQuantity
  rw [e, Option.bind_some]
  dsimp only
  rw [if_pos po_ib1, Option.bind_some]
  rfl, fun h E t h4 e hc => by
  unfold gL_reorderQuantity
  rw [e]
  exact lw_c1 hc⟩
theorem lw_productOf (x : Int32) : lw_W (fun _ => True) lw_pJ (lc_1 po_IO) (gX10_productOf x) (gL_productOf x) := ⟨fun h v h4 _ e => by
  unfold gL_productOf
  rw [e, Option.bind_some]
  dsimp only
  rw [if_pos po_ib1, Option.bind_some]
  rfl, fun h E t h4 e hc => by
  unfold gL_productOf
  rw [e]
  exact lw_c1 hc⟩
theorem lw_quantity (x : Int32) : lw_W (fun _ => True) lw_pJ (lc_1 po_IO) (gX10_quantity x) (gL_quantity x) := ⟨fun h v h4 _ e => by
  unfold gL_quantity
  rw [e, Option.bind_some]
  dsimp only
  rw [if_pos po_ib1, Option.bind_some]
  rfl, fun h E t h4 e hc => by
  unfold gL_quantity
  rw [e]
  exact lw_c1 hc⟩
theorem lw_reservedOf (x : Int32) : lw_W (fun _ => True) lw_pJ (lc_1 po_IO) (gX10_reservedOf x) (gL_reservedOf x) := ⟨fun h v h4 _ e => by
  unfold gL_reservedOf
  rw [e, Option.bind_some]
  dsimp only
  rw [if_pos po_ib1, Option.bind_some]
  rfl, fun h E t h4 e hc => by
  unfold gL_reservedOf
  rw [e]
  exact lw_c1 hc⟩
theorem lw_expiryDay (x : Int32) : lw_W (fun _ => True) lw_pJ (lc_1 po_IO) (gX10_expiryDay x) (gL_expiryDay x) := ⟨fun h v h4 _ e => by
  unfold gL_expiryDay
  rw [e, Option.bind_some]
  dsimp only
  rw [if_pos po_ib1, Option.bind_some]
  rfl, fun h E t h4 e hc => by
  unfold gL_expiryDay
  rw [e]
  exact lw_c1 hc⟩
theorem lw_unitCost (x : Int32) : lw_W (fun _ => True) lw_pJ (lc_1 po_IO) (gX10_unitCost x) (gL_unitCost x) := ⟨fun h v h4 _ e => by
  unfold gL_unitCost
  rw [e, Option.bind_some]
  dsimp only
  rw [if_pos po_ib1, Option.bind_some]
  rfl, fun h E t h4 e hc => by
  unfold gL_unitCost
  rw [e]
  exact lw_c1 hc⟩
theorem lw_isExpired (x : Int32) : lw_W (fun _ => True) lw_pB (lc_1 po_IO) (gX10_isExpired x) (gL_isExpired x) := ⟨fun h v h4 _ e => by
  unfold gL_isExpired
  rw [e, Option.bind_some]
  dsimp only [mm_jn]
  cases v
  · rw [if_neg Bool.false_ne_true, if_pos po_ib1, Option.bind_some]
    rfl
  · rw [if_pos rfl, if_pos po_ib1, Option.bind_some]
    rfl, fun h E t h4 e hc => by
  unfold gL_isExpired
  rw [e]
  exact lw_c1 hc⟩
theorem lw_issueOrder (x y : Int32) : lw_W (fun _ => True) lw_pJ (lc_1 po_IO) (gX10_issueOrder x y) (gL_issueOrder x y) := ⟨fun h v h4 _ e => by
  unfold gL_issueOrder
  rw [e, Option.bind_some]
  dsimp only
  rw [if_pos po_ib1, Option.bind_some]
  rfl, fun h E t h4 e hc => by
  unfold gL_issueOrder
  rw [e]
  exact lw_c1 hc⟩
theorem lw_costOfIssue (x y : Int32) : lw_W (fun _ => True) lw_pJ (lc_2 po_IO po_IA) (gX10_costOfIssue x y) (gL_costOfIssue x y) := ⟨fun h v h4 _ e => by
  unfold gL_costOfIssue
  rw [e, Option.bind_some]
  dsimp only
  rw [if_pos po_ib1, Option.bind_some]
  rfl, fun h E t h4 e hc => by
  unfold gL_costOfIssue
  rw [e]
  exact lw_c2 hc⟩
theorem lw_reservedProduct (x : Int32) : lw_W (fun _ => True) lw_pJ (lc_1 po_IO) (gX10_reservedProduct x) (gL_reservedProduct x) := ⟨fun h v h4 _ e => by
  unfold gL_reservedProduct
  rw [e, Option.bind_some]
  dsimp only
  rw [if_pos po_ib1, Option.bind_some]
  rfl, fun h E t h4 e hc => by
  unfold gL_reservedProduct
  rw [e]
  exact lw_c1 hc⟩
theorem lw_reservedQuantity (x : Int32) : lw_W (fun _ => True) lw_pJ (lc_1 po_IO) (gX10_reservedQuantity x) (gL_reservedQuantity x) := ⟨fun h v h4 _ e => by
  unfold gL_reservedQuantity
  rw [e, Option.bind_some]
  dsimp only
  rw [if_pos po_ib1, Option.bind_some]
  rfl, fun h E t h4 e hc => by
  unfold gL_reservedQuantity
  rw [e]
  exact lw_c1 hc⟩
theorem lw_isOpen (x : Int32) : lw_W (fun _ => True) lw_pB (lc_1 po_IO) (gX10_isOpen x) (gL_isOpen x) := ⟨fun h v h4 _ e => by
  unfold gL_isOpen
  rw [e, Option.bind_some]
  dsimp only [mm_jn]
  cases v
  · rw [if_neg Bool.false_ne_true, if_pos po_ib1, Option.bind_some]
    rfl
  · rw [if_pos rfl, if_pos po_ib1, Option.bind_some]
    rfl, fun h E t h4 e hc => by
  unfold gL_isOpen
  rw [e]
  exact lw_c1 hc⟩
theorem lw_missing (x : Int32) : lw_W (fun _ => True) lw_pJ (lc_1 po_IO) (gX10_missing x) (gL_missing x) := ⟨fun h v h4 _ e => by
  unfold gL_missing
  rw [e, Option.bind_some]
  dsimp only
  rw [if_pos po_ib1, Option.bind_some]
  rfl, fun h E t h4 e hc => by
  unfold gL_missing
  rw [e]
  exact lw_c1 hc⟩
theorem lw_allocation (x y : Int32) : lw_W (fun _ => True) lw_pJ (lc_1 po_IO) (gX10_allocation x y) (gL_allocation x y) := ⟨fun h v h4 _ e => by
  unfold gL_allocation
  rw [e, Option.bind_some]
  dsimp only
  rw [if_pos po_ib1, Option.bind_some]
  rfl, fun h E t h4 e hc => by
  unfold gL_allocation
  rw [e]
  exact lw_c1 hc⟩
theorem lw_whyNotShipped (x : Int32) : lw_W (fun _ => True) lw_pJ (lc_1 po_IO) (gX10_whyNotShipped x) (gL_whyNotShipped x) := ⟨fun h v h4 _ e => by
  unfold gL_whyNotShipped
  rw [e, Option.bind_some]
  dsimp only
  rw [if_pos po_ib1, Option.bind_some]
  rfl, fun h E t h4 e hc => by
  unfold gL_whyNotShipped
  rw [e]
  exact lw_c1 hc⟩
theorem lw_receivedUnits (x : Int32) : lw_W (fun _ => True) lw_pJ (lc_1 po_IO) (gX10_receivedUnits x) (gL_receivedUnits x) := ⟨fun h v h4 _ e => by
  unfold gL_receivedUnits
  rw [e, Option.bind_some]
  dsimp only
  rw [if_pos po_ib1, Option.bind_some]
  rfl, fun h E t h4 e hc => by
  unfold gL_receivedUnits
  rw [e]
  exact lw_c1 hc⟩
theorem lw_deliveredUnits (x : Int32) : lw_W (fun _ => True) lw_pJ (lc_1 po_IO) (gX10_deliveredUnits x) (gL_deliveredUnits x) := ⟨fun h v h4 _ e => by
  unfold gL_deliveredUnits
  rw [e, Option.bind_some]
  dsimp only
  rw [if_pos po_ib1, Option.bind_some]
  rfl, fun h E t h4 e hc => by
  unfold gL_deliveredUnits
  rw [e]
  exact lw_c1 hc⟩
theorem lw_writtenOffUnits (x : Int32) : lw_W (fun _ => True) lw_pJ (lc_1 po_IO) (gX10_writtenOffUnits x) (gL_writtenOffUnits x) := ⟨fun h v h4 _ e => by
  unfold gL_writtenOffUnits
  rw [e, Option.bind_some]
  dsimp only
  rw [if_pos po_ib1, Option.bind_some]
  rfl, fun h E t h4 e hc => by
  unfold gL_writtenOffUnits
  rw [e]
  exact lw_c1 hc⟩
theorem lw_adjustment (x : Int32) : lw_W (fun _ => True) lw_pJ (lc_1 po_IO) (gX10_adjustment x) (gL_adjustment x) := ⟨fun h v h4 _ e => by
  unfold gL_adjustment
  rw [e, Option.bind_some]
  dsimp only
  rw [if_pos po_ib1, Option.bind_some]
  rfl, fun h E t h4 e hc => by
  unfold gL_adjustment
  rw [e]
  exact lw_c1 hc⟩
theorem lw_meanCost (x : Int32) : lw_W (fun _ => True) lw_pD (lc_1 po_IO) (gX10_meanCost x) (gL_meanCost x) := ⟨fun h v h4 _ e => by
  unfold gL_meanCost
  rw [e, Option.bind_some]
  dsimp only
  rw [if_pos po_ib1, Option.bind_some]
  rfl, fun h E t h4 e hc => by
  unfold gL_meanCost
  rw [e]
  exact lw_c1 hc⟩
theorem lw_daysUntilShortage (x y : Int32) : lw_W (fun _ => True) lw_pJ (lc_2 po_IO po_IA) (gX10_daysUntilShortage x y) (gL_daysUntilShortage x y) := ⟨fun h v h4 _ e => by
  unfold gL_daysUntilShortage
  rw [e, Option.bind_some]
  dsimp only
  rw [if_pos po_ib1, Option.bind_some]
  rfl, fun h E t h4 e hc => by
  unfold gL_daysUntilShortage
  rw [e]
  exact lw_c2 hc⟩
theorem lw_wasteWithDemand (x y z : Int32) : lw_W (fun _ => True) lw_pJ (lc_2 po_IO po_IA) (gX10_wasteWithDemand x y z) (gL_wasteWithDemand x y z) := ⟨fun h v h4 _ e => by
  unfold gL_wasteWithDemand
  rw [e, Option.bind_some]
  dsimp only
  rw [if_pos po_ib1, Option.bind_some]
  rfl, fun h E t h4 e hc => by
  unfold gL_wasteWithDemand
  rw [e]
  exact lw_c2 hc⟩
theorem lw_demandWithoutWaste (x : Int32) : lw_W (fun _ => True) lw_pJ (lc_1 po_IO) (gX10_demandWithoutWaste x) (gL_demandWithoutWaste x) := ⟨fun h v h4 _ e => by
  unfold gL_demandWithoutWaste
  rw [e, Option.bind_some]
  dsimp only
  rw [if_pos po_ib1, Option.bind_some]
  rfl, fun h E t h4 e hc => by
  unfold gL_demandWithoutWaste
  rw [e]
  exact lw_c1 hc⟩
theorem lw_receive (x y z u : Int32) : lw_W (fun _ => True) lw_pJ (lc_3 po_IO po_IA po_IS) (gX10_receive x y z u) (gL_receive x y z u) := ⟨fun h v h4 _ e => by
  unfold gL_receive
  rw [e, Option.bind_some]
  dsimp only
  rw [if_pos po_ib1, Option.bind_some]
  rfl, fun h E t h4 e hc => by
  unfold gL_receive
  rw [e]
  exact lw_c3 hc⟩
theorem lw_issue (x y : Int32) : lw_W (fun _ => True) lw_pJ (lc_3 po_IO po_IA po_IS) (gX10_issue x y) (gL_issue x y) := ⟨fun h v h4 _ e => by
  unfold gL_issue
  rw [e, Option.bind_some]
  dsimp only
  rw [if_pos po_ib1, Option.bind_some]
  rfl, fun h E t h4 e hc => by
  unfold gL_issue
  rw [e]
  exact lw_c3 hc⟩
theorem lw_reserve (x y z : Int32) : lw_W (fun _ => True) lw_pJ (lc_3 po_IO po_IA po_IS) (gX10_reserve x y z) (gL_reserve x y z) := ⟨fun h v h4 _ e => by
  unfold gL_reserve
  rw [e, Option.bind_some]
  dsimp only
  rw [if_pos po_ib1, Option.bind_some]
  rfl, fun h E t h4 e hc => by
  unfold gL_reserve
  rw [e]
  exact lw_c3 hc⟩
theorem lw_ship (x : Int32) : lw_W (fun _ => True) lw_pJ (lc_2 po_IO po_IS) (gX10_ship x) (gL_ship x) := ⟨fun h v h4 _ e => by
  unfold gL_ship
  rw [e, Option.bind_some]
  dsimp only
  rw [if_pos po_ib1, Option.bind_some]
  rfl, fun h E t h4 e hc => by
  unfold gL_ship
  rw [e]
  exact lw_c2 hc⟩
theorem lw_cancel (x : Int32) : lw_W (fun _ => True) lw_pJ (lc_2 po_IO po_IS) (gX10_cancel x) (gL_cancel x) := ⟨fun h v h4 _ e => by
  unfold gL_cancel
  rw [e, Option.bind_some]
  dsimp only
  rw [if_pos po_ib1, Option.bind_some]
  rfl, fun h E t h4 e hc => by
  unfold gL_cancel
  rw [e]
  exact lw_c2 hc⟩
theorem lw_refill (x : Int32) : lw_W (fun _ => True) lw_pJ (lc_2 po_IO po_IS) (gX10_refill x) (gL_refill x) := ⟨fun h v h4 _ e => by
  unfold gL_refill
  rw [e, Option.bind_some]
  dsimp only
  rw [if_pos po_ib1, Option.bind_some]
  rfl, fun h E t h4 e hc => by
  unfold gL_refill
  rw [e]
  exact lw_c2 hc⟩
theorem lw_takeStock (x y : Int32) : lw_W (fun _ => True) lw_pJ (lc_3 po_IO po_IA po_IS) (gX10_takeStock x y) (gL_takeStock x y) := ⟨fun h v h4 _ e => by
  unfold gL_takeStock
  rw [e, Option.bind_some]
  dsimp only
  rw [if_pos po_ib1, Option.bind_some]
  rfl, fun h E t h4 e hc => by
  unfold gL_takeStock
  rw [e]
  exact lw_c3 hc⟩
theorem lw_passDays (x : Int32) : lw_W (fun _ => True) lw_pJ (lc_2 po_IA po_IS) (gX10_passDays x) (gL_passDays x) := ⟨fun h v h4 _ e => by
  unfold gL_passDays
  rw [e, Option.bind_some]
  dsimp only
  rw [if_pos po_ib1, Option.bind_some]
  rfl, fun h E t h4 e hc => by
  unfold gL_passDays
  rw [e]
  exact lw_c2 hc⟩
theorem lw_runScript : lw_W (fun _ => True) lw_pJ (lc_1 po_IA) (gX10_runScript) (gL_runScript) := ⟨fun h v h4 _ e => by
  unfold gL_runScript
  rw [e, Option.bind_some]
  dsimp only
  rw [if_pos po_ib1, Option.bind_some]
  rfl, fun h E t h4 e hc => by
  unfold gL_runScript
  rw [e]
  exact lw_c1 hc⟩
theorem lw_undo : lw_W (fun _ => True) lw_pJ (lc_1 po_IS) (gX10_undo) (gL_undo) := ⟨fun h v h4 _ e => by
  unfold gL_undo
  rw [e, Option.bind_some]
  dsimp only
  rw [if_pos po_ib1, Option.bind_some]
  rfl, fun h E t h4 e hc => by
  unfold gL_undo
  rw [e]
  exact lw_c1 hc⟩
theorem lw_save (x : Int32) : lw_W (fun _ => True) lw_pJ (lc_1 po_IO) (gX10_save x) (gL_save x) := ⟨fun h v h4 _ e => by
  unfold gL_save
  rw [e, Option.bind_some]
  dsimp only
  rw [if_pos po_ib1, Option.bind_some]
  rfl, fun h E t h4 e hc => by
  unfold gL_save
  rw [e]
  exact lw_c1 hc⟩
theorem lw_restore (x : Int32) : lw_W (fun _ => True) lw_pJ (lc_2 po_IO po_IS) (gX10_restore x) (gL_restore x) := ⟨fun h v h4 _ e => by
  unfold gL_restore
  rw [e, Option.bind_some]
  dsimp only
  rw [if_pos po_ib1, Option.bind_some]
  rfl, fun h E t h4 e hc => by
  unfold gL_restore
  rw [e]
  exact lw_c2 hc⟩
theorem lw_writeBatches (x : Int32) : lw_W (fun _ => True) lw_pJ (lc_1 po_IO) (gX10_writeBatches x) (gL_writeBatches x) := ⟨fun h v h4 _ e => by
  unfold gL_writeBatches
  rw [e, Option.bind_some]
  dsimp only
  rw [if_pos po_ib1, Option.bind_some]
  rfl, fun h E t h4 e hc => by
  unfold gL_writeBatches
  rw [e]
  exact lw_c1 hc⟩
theorem lw_outputByte (x : Int32) : lw_W (fun _ => True) lw_pJ (lc_1 po_IO) (gX10_outputByte x) (gL_outputByte x) := ⟨fun h v h4 _ e => by
  unfold gL_outputByte
  rw [e, Option.bind_some]
  dsimp only
  rw [if_pos po_ib1, Option.bind_some]
  rfl, fun h E t h4 e hc => by
  unfold gL_outputByte
  rw [e]
  exact lw_c1 hc⟩
theorem lw_wasteShare (x : Int32) : lw_W (fun v => mm_n64 (FP.f2d v) = true) lw_pF (lc_1 po_IO) (gX10_wasteShare x) (gL_wasteShare x) := ⟨fun h v h4 hv e => by
  unfold gL_wasteShare
  rw [e, Option.bind_some]
  dsimp only
  rw [if_pos hv, if_pos po_ib1, Option.bind_some]
  rfl, fun h E t h4 e hc => by
  unfold gL_wasteShare
  rw [e]
  exact lw_c1 hc⟩
theorem op_wastep (x : Int32) : op_runp (fun v => mm_n64 (FP.f2d v) = true) (lc_1 po_IO) (gX10_wasteShare x) (gX11_wasteShare x) := fun A ok => by
  refine ⟨A, ok, ?_⟩
  rcases op_wasteShare x A ok with ⟨v, h0, h1, h2⟩ | ⟨h1, h2⟩
  · exact Or.inl ⟨v, h0, fun h H => (h1 h H).imp (fun x hx => ⟨hx.1, hx.2.1, po_fw_of hx.2.2⟩), h2⟩
  · exact Or.inr ⟨po_IO, 1, FP.fconst0, lc_1a, by decide, fun h H => (h1 h H).imp (fun x hx => ⟨hx.1, hx.2.1, po_fw_of hx.2.2⟩), h2⟩
end PRG

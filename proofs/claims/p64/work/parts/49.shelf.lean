section PPU
/-! the class's copies of stocks -/
theorem po_cpy {o p c : Nat} {h : mm_H} (ho : mm_cap o = c) (hp : mm_cap p = c) (hc : c < 60000) :
    ∃ h', gX4_copyFrom o p h = some h' ∧ (∀ j, j < c → mh_I h' (o + 1) j = mh_I h (p + 1) j) ∧ po_fr (fun z => z == o + 1) h h' := by
  unfold gX4_copyFrom
  have hm : mm_min (nI c) (nI c) = nI c := by rw [po_minN (by omega) (by omega), Nat.min_self]
  rw [ho, hp, hm, if_pos (show mm_cpo 0 0 (nI c) c c = true from decide_eq_true ⟨by decide, by decide, nI_pos (by omega), by rw [nI_clamp (by omega), po_t0]; omega, by rw [nI_clamp (by omega), po_t0]; omega⟩), nI_clamp (by omega), Option.bind_some]
  refine ⟨_, rfl, fun j hj => ?_, po_fr_Y (by simp)⟩
  show (if o + 1 = o + 1 then va_cpy (mh_I h (p + 1)) (mh_I h (o + 1)) (Int32.toNatClampNeg 0) (Int32.toNatClampNeg 0) c j else _) = _
  rw [if_pos rfl, po_t0, pk_cpy_in (by omega) (by omega)]
  exact congrArg _ (by omega)
theorem po_in_self {o : Nat} : po_in o o = true := decide_eq_true ⟨by omega, by omega⟩
/-- n rows of o are p's -/
def po_cp (o p n : Nat) (h h' : mm_H) : Prop := po_fr (po_in o) h h' ∧ ∀ d, 0 < d → d < n → ∀ j, j < mm_cap (o + (2 * d - 1)) → mh_I h' (o + 2 * d) j = mh_I h (p + 2 * d) j
theorem po_cp_S {o p n a c : Nat} {h h1 : mm_H} {v : Nat → Int32} (H : po_cp o p n h h1) (hv : ∀ j, mh_I h1 o j = v j) (hd : ∀ z, po_in o z = true → po_in p z = false) (ha : a + 1 = 2 * n) (h15 : n ≤ 15) (ho : mm_cap (o + a) = c) (hp : mm_cap (p + a) = c) (hc : c < 60000) :
    ∃ h2, gX4_copyFrom (o + a) (p + a) h1 = some h2 ∧ po_cp o p (n + 1) h h2 ∧ ∀ j, mh_I h2 o j = v j := by
  obtain ⟨h2, e1, e2, e3⟩ := po_cpy (h := h1) ho hp hc
  refine ⟨h2, e1, ⟨po_fr_trans H.1 (po_fr_mono e3 (fun z hz => ?_)), fun d h0 hd' j hj => ?_⟩, fun j => ?_⟩
  · have hn : ¬ (o ≤ z ∧ z < o + 31) := of_decide_eq_false hz
    show (z == o + a + 1) = false
    simp
    omega
  · by_cases hdn : d = n
    · subst hdn
      rw [show o + (2 * d - 1) = o + a by omega, ho] at hj
      rw [show o + 2 * d = o + a + 1 by omega, e2 j hj, show p + a + 1 = p + 2 * d by omega]
      refine H.1.1 _ ?_ _
      cases hz : po_in o (p + 2 * d) with
      | false => rfl
      | true =>
        have := hd _ hz
        rw [po_in_f (by omega)] at this
        cases this
    · rw [e3.1 _ (by simp; omega)]
      exact H.2 d h0 (by omega) j hj
  · rw [e3.1 o (by simp; omega)]
    exact hv j
theorem po_cp_I {o p n k : Nat} {v : Int32} {h h1 : mm_H} (H : po_cp o p n h h1) : po_cp o p n h (ms_I h1 o k v) :=
  ⟨po_fr_trans H.1 (po_fr_I (po_in_self)), fun d h0 hd j hj => by
    rw [po_I3 (by omega)]
    exact H.2 d h0 hd j hj⟩
theorem pc_copyS {o p : Nat} {h : mm_H} (hk : mm_kd o = (0, 7)) (hk' : mm_kd p = (0, 7)) (hd : ∀ z, po_in o z = true → po_in p z = false) :
    ∃ h', gX7_copyFrom o p h = some h' ∧ po_cp o p 16 h h' ∧ mh_I h' o 0 = mh_I h p 0 ∧ mh_I h' o 1 = mh_I h p 1 ∧ mh_I h' o 7 = mh_I h p 7 := by
  obtain ⟨⟨c1, c3, c5, c7, c9⟩, ⟨c11, c13, c15, c17, c19⟩, ⟨c21, c23, c25, c27, c29⟩⟩ := po_cap7 hk
  obtain ⟨⟨d1, d3, d5, d7, d9⟩, ⟨d11, d13, d15, d17, d19⟩, ⟨d21, d23, d25, d27, d29⟩⟩ := po_cap7 hk'
  have hpo : p ≠ o := fun z => by
    have := hd o (po_in_self)
    rw [z, po_in_self] at this
    cases this
  have hpp : ∀ {h1 : mm_H}, po_fr (po_in o) h h1 → ∀ j, mh_I h1 p j = mh_I h p j := fun hf j => hf.1 p (by
    cases hz : po_in o p with
    | false => rfl
    | true =>
      have := hd _ hz
      rw [po_in_self] at this
      cases this) j
  unfold gX7_copyFrom
  rw [Option.bind_some, Option.bind_some, po_I3 hpo]
  have K0 : po_cp o p 1 h (ms_I (ms_I h o 0 (mh_I h p 0)) o 1 (mh_I h p 1)) := po_cp_I (po_cp_I ⟨po_fr_refl h, fun d h0 h1 => by omega⟩)
  obtain ⟨x1, e1, K1, v1⟩ := po_cp_S (a := 1) K0 (fun j => rfl) hd rfl (by decide) c1 d1 (by decide)
  rw [e1, Option.bind_some]
  obtain ⟨x2, e2, K2, v2⟩ := po_cp_S (a := 3) K1 v1 hd rfl (by decide) c3 d3 (by decide)
  rw [e2, Option.bind_some]
  obtain ⟨x3, e3, K3, v3⟩ := po_cp_S (a := 5) K2 v2 hd rfl (by decide) c5 d5 (by decide)
  rw [e3, Option.bind_some]
  obtain ⟨x4, e4, K4, v4⟩ := po_cp_S (a := 7) K3 v3 hd rfl (by decide) c7 d7 (by decide)
  rw [e4, Option.bind_some]
  obtain ⟨x5, e5, K5, v5⟩ := po_cp_S (a := 9) K4 v4 hd rfl (by decide) c9 d9 (by decide)
  rw [e5, Option.bind_some, Option.bind_some, hpp K5.1]
  obtain ⟨x6, e6, K6, v6⟩ := po_cp_S (a := 11) (po_cp_I (k := 7) (v := mh_I h p 7) K5) (fun j => rfl) hd rfl (by decide) c11 d11 (by decide)
  rw [e6, Option.bind_some]
  obtain ⟨x7, e7, K7, v7⟩ := po_cp_S (a := 13) K6 v6 hd rfl (by decide) c13 d13 (by decide)
  rw [e7, Option.bind_some]
  obtain ⟨x8, e8, K8, v8⟩ := po_cp_S (a := 15) K7 v7 hd rfl (by decide) c15 d15 (by decide)
  rw [e8, Option.bind_some]
  obtain ⟨x9, e9, K9, v9⟩ := po_cp_S (a := 17) K8 v8 hd rfl (by decide) c17 d17 (by decide)
  rw [e9, Option.bind_some]
  obtain ⟨y1, f1, L1, w1⟩ := po_cp_S (a := 19) K9 v9 hd rfl (by decide) c19 d19 (by decide)
  rw [f1, Option.bind_some]
  obtain ⟨y2, f2, L2, w2⟩ := po_cp_S (a := 21) L1 w1 hd rfl (by decide) c21 d21 (by decide)
  rw [f2, Option.bind_some]
  obtain ⟨y3, f3, L3, w3⟩ := po_cp_S (a := 23) L2 w2 hd rfl (by decide) c23 d23 (by decide)
  rw [f3, Option.bind_some]
  obtain ⟨y4, f4, L4, w4⟩ := po_cp_S (a := 25) L3 w3 hd rfl (by decide) c25 d25 (by decide)
  rw [f4, Option.bind_some]
  obtain ⟨y5, f5, L5, w5⟩ := po_cp_S (a := 27) L4 w4 hd rfl (by decide) c27 d27 (by decide)
  rw [f5, Option.bind_some]
  obtain ⟨y6, f6, L6, w6⟩ := po_cp_S (a := 29) L5 w5 hd rfl (by decide) c29 d29 (by decide)
  rw [f6, Option.bind_some]
  refine ⟨y6, rfl, L6, ?_, ?_, ?_⟩
  · rw [w6, po_I4 (by decide), v5, po_I4 (by decide), po_I1]
  · rw [w6, po_I4 (by decide), v5, po_I1]
  · rw [w6, po_I1]
theorem sc_cp {S : sp_S} {o p : Nat} {h h' : mm_H} (hk : mm_kd o = (0, 7)) (ok : sp_ok S) (H : sc_S S p h) (hc : po_cp o p 16 h h') (h0 : mh_I h' o 0 = mh_I h p 0) (h1 : mh_I h' o 1 = mh_I h p 1) (h7 : mh_I h' o 7 = mh_I h p 7) : sc_S S o h' := by
  obtain ⟨⟨c1, c3, c5, c7, c9⟩, ⟨c11, c13, c15, c17, c19⟩, ⟨c21, c23, c25, c27, c29⟩⟩ := po_cap7 hk
  have n20 := ok.1.2.1
  have n10 := ok.1.2.2
  have e : ∀ d c, 0 < d → d < 16 → mm_cap (o + (2 * d - 1)) = c → ∀ j, j < c → mh_I h' (o + 2 * d) j = mh_I h (p + 2 * d) j := fun d c h0 h16 hcap j hj => hc.2 d h0 h16 j (by rw [hcap]; exact hj)
  refine ⟨⟨h0.trans H.1.1, h1.trans H.1.2.1, h7.trans H.1.2.2⟩, fun b hb => ?_, fun r hr => ?_, fun x hx => ?_⟩
  · obtain ⟨a1, a2, a3, a4, a5⟩ := H.2.1 b hb
    have hb' : b < 20 := by omega
    exact ⟨(e 1 20 (by decide) (by decide) c1 b hb').trans a1, (e 2 20 (by decide) (by decide) c3 b hb').trans a2, (e 3 20 (by decide) (by decide) c5 b hb').trans a3, (e 4 20 (by decide) (by decide) c7 b hb').trans a4, (e 5 20 (by decide) (by decide) c9 b hb').trans a5⟩
  · obtain ⟨a1, a2, a3, a4, a5⟩ := H.2.2.1 r hr
    have hr' : r < 10 := by omega
    exact ⟨(e 6 10 (by decide) (by decide) c11 r hr').trans a1, (e 7 10 (by decide) (by decide) c13 r hr').trans a2, (e 8 10 (by decide) (by decide) c15 r hr').trans a3, (e 9 10 (by decide) (by decide) c17 r hr').trans a4, fun b hb => (e 10 200 (by decide) (by decide) c19 _ (by omega)).trans (a5 b hb)⟩
  · obtain ⟨a1, a2, a3, a4⟩ := H.2.2.2 x hx
    refine ⟨(e 11 8 (by decide) (by decide) c21 x hx).trans a1, ?_, (e 14 8 (by decide) (by decide) c27 x hx).trans a3, (e 15 8 (by decide) (by decide) c29 x hx).trans a4⟩
    have b1 : mh_I h' (o + 24) x = mh_I h (p + 24) x := e 12 8 (by decide) (by decide) c23 x hx
    have b2 : mh_I h' (o + 26) x = mh_I h (p + 26) x := e 13 8 (by decide) (by decide) c25 x hx
    rw [b1, b2]
    exact a2
theorem po_dis {o p : Nat} (hd : o + 31 ≤ p ∨ p + 31 ≤ o) : ∀ z, po_in o z = true → po_in p z = false := fun z hz => by
  have h1 : o ≤ z ∧ z < o + 31 := of_decide_eq_true hz
  exact decide_eq_false (by omega)
theorem pc_store {o n k : Nat} {h : mm_H} (hc : mm_cap o = n) (h2 : mm_cap (o + 2) = n) (hn : n < 60000) (hk : k < n) (h7 : mm_kd (o + 1 + 3 + 31 * k) = (0, 7)) (ho : 52 ≤ o + 4 + 31 * k) :
    ∃ h', gX6_store o (nI k) 21 h = some h' ∧ (∀ S, sp_ok S → sc_S S 21 h → sc_S S (o + 1 + 3 + 31 * k) h') ∧ mh_I h' (o + 3) k = 1 ∧ (∀ j, j ≠ k → mh_I h' (o + 3) j = mh_I h (o + 3) j) ∧ po_fr (fun z => z == o + 3 || po_in (o + 1 + 3 + 31 * k) z) h h' := by
  unfold gX6_store
  rw [if_neg (nI_pos (by omega)), hc, if_pos (nI_lt hk (by omega)), if_pos (po_ibd hk (by omega)), if_pos (po_ibd hk (by omega)), nI_clamp (by omega)]
  obtain ⟨h1, e1, e2, e3, e4, e5⟩ := pc_copyS (o := o + 1 + 3 + 31 * k) (p := 21) (h := h) h7 (by decide +kernel) (po_dis (by omega))
  rw [e1, Option.bind_some, po_put (by rw [h2]; exact hk) (by rw [h2]; exact hn), Option.bind_some]
  have hz : po_in (o + 1 + 3 + 31 * k) (o + 3) = false := decide_eq_false (by omega)
  refine ⟨_, rfl, fun S ok HS => ?_, po_I1, fun j hj => ?_, po_fr_trans (po_fr_mono e2.1 (fun z hz => ?_)) (po_fr_I (by simp))⟩
  · refine sc_fr (C := fun z => z == o + 3) (sc_cp h7 ok HS e2 e3 e4 e5) (po_fr_I (by simp)) (fun q hq => ?_)
    have hq' : o + 1 + 3 + 31 * k ≤ q ∧ q < o + 1 + 3 + 31 * k + 31 := of_decide_eq_true hq
    show (q == o + 3) = false
    simp
    omega
  · rw [show o + 2 + 1 = o + 3 from rfl, po_I4 hj]
    exact e2.1.1 _ hz _
  · cases h9 : po_in (o + 1 + 3 + 31 * k) z with
    | false => rfl
    | true =>
      rw [h9, Bool.or_true] at hz
      cases hz
end PPU

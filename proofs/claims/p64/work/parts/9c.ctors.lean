section PRN
/-! both constructors -/
variable {J : Nat → Nat → Int64} {D : Nat → Nat → Nat} {I : Nat → Nat → Int32} {h : mm_H}
theorem ez_A_1 : ez_n ez_A = 352 ∧ ez_A.1.2.1 = 352 ∧ ez_A.1.2.2 ≤ 20000 ∧ ez_chk 352 7 ez_A = true := by
  have h := ez_A_ok
  obtain ⟨h, h4⟩ := Bool.and_eq_true_iff.mp h
  obtain ⟨h, h3⟩ := Bool.and_eq_true_iff.mp h
  obtain ⟨h1, h2⟩ := Bool.and_eq_true_iff.mp h
  exact ⟨of_decide_eq_true (Bool.and_eq_true_iff.mp h2).1, eq_of_beq h3, of_decide_eq_true h4, h2⟩
theorem mm_chk_ez {N t : Nat} {e : ez_E} (h1 : h.1 = e.1) (h2 : mh_R h = e.2) (hc : ez_chk N t e = true) : mm_chk N t h = true := by
  unfold mm_chk mh_n
  rw [h1, h2]
  exact hc
theorem ez_t1 {e : ez_E} : (ez_t J D I e).1 = e.1 := rfl
theorem ez_tR {e : ez_E} : mh_R (ez_t J D I e) = e.2 := rfl
theorem lt_X10 (hI : ∀ o k, o < 352 → I o k = 0) : ∃ h3, gX10_init (ez_t J D I (ez_N ez_0 11)) = some h3 ∧ h3.1 = ez_A.1 ∧ mh_R h3 = ez_A.2 ∧ mh_J h3 = J ∧ mh_D h3 = D ∧ (∀ o, 352 ≤ o → ∀ k, mh_I h3 o k = I o k) ∧ ra_c lt_A h3 := by
  rw [ezl10_init, ez_A_e, Option.bind_some]
  obtain ⟨n1, n2, n3, n4⟩ := ez_A_1
  generalize hX : ez_t J D (mm_up I 5 2 (-1)) ez_A = X
  have x1 : X.1 = ez_A.1 := by rw [← hX, ez_t1]
  have xR : mh_R X = ez_A.2 := by rw [← hX, ez_tR]
  have xJ : mh_J X = J := by rw [← hX]; rfl
  have xD : mh_D X = D := by rw [← hX]; rfl
  have xI : ∀ o k, mh_I X o k = if o = 5 ∧ k = 2 then -1 else I o k := fun o k => by rw [← hX]; rfl
  have z : ∀ o k, o < 352 → o ≠ 5 → mh_I X o k = 0 := fun o k ho h5 => by rw [xI, if_neg (fun w => h5 w.1), hI o k ho]
  have xn : mh_n X = 352 := by
    show X.1.1 = 352
    rw [x1]
    exact n1
  unfold kc_X10
  rw [if_pos (by rw [xn]; decide), if_pos (by rw [xR]; exact ez_A_4), if_pos (mm_chk_ez x1 xR n4)]
  have HC0 : sc_C sp_C0 14 X := ⟨z 14 0 (by decide) (by decide), fun p hp => absurd hp (Nat.not_lt_zero _)⟩
  have HS0 : sc_S sp_S0 21 X := by
    refine ⟨⟨z 21 0 (by decide) (by decide), z 21 1 (by decide) (by decide), z 21 7 (by decide) (by decide)⟩, fun b hb => absurd hb (Nat.not_lt_zero _), fun r hr => absurd hr (Nat.not_lt_zero _), fun p hp => ⟨z _ p (by decide) (by decide), ?_, z _ p (by decide) (by decide), z _ p (by decide) (by decide)⟩⟩
    rw [z _ p (by decide) (by decide), z _ p (by decide) (by decide)]
    rfl
  obtain ⟨y1, e1, C1, f1⟩ := tk_prod (T := lt_30) (s := 18) (n := 4) (v := 20) (p0 := 0) HC0 sp_C0_ok (by decide) (by decide) rfl lt_n0
  obtain ⟨y2, e2, C2, f2⟩ := tk_prod (T := lt_30) (s := 34) (n := 4) (v := 50) (p0 := 1) C1 lt_C1 (by decide) (by decide) rfl lt_n1
  obtain ⟨y3, e3, C3, f3⟩ := tk_prod (T := lt_30) (s := 50) (n := 4) (v := 10) (p0 := 2) C2 lt_C2 (by decide) (by decide) rfl lt_n2
  have f123 := po_fr_trans f1 (po_fr_trans f2 f3)
  have HS3 := sc_fr HS0 f123 (fun q hq => by
    have hq' : 21 ≤ q ∧ q < 21 + 31 := of_decide_eq_true hq
    exact decide_eq_false (by omega))
  obtain ⟨y4, e4, S4, f4⟩ := pc_add (p := 0) (q := 30) (e := 5) (c := 12) po_k21 HS3 sp_S0_ok (by decide) (by decide)
  obtain ⟨y5, e5, S5, f5⟩ := pc_add (p := 0) (q := 20) (e := 3) (c := 10) po_k21 S4 lt_S1 (by decide) (by decide)
  obtain ⟨y6, e6, S6, f6⟩ := pc_add (p := 1) (q := 100) (e := 200) (c := 4) po_k21 S5 lt_S2 (by decide) (by decide)
  obtain ⟨y7, e7, S7, f7⟩ := pc_add (p := 2) (q := 24) (e := 9) (c := 3) po_k21 S6 lt_S3 (by decide) (by decide)
  have f47 := po_fr_trans f4 (po_fr_trans f5 (po_fr_trans f6 f7))
  have F : po_fr (fun z => po_d14 z || po_in 21 z) X y7 := po_fr_trans (po_fr_mono f123 (fun z hz => (Bool.or_eq_false_iff.mp hz).1)) (po_fr_mono f47 (fun z hz => (Bool.or_eq_false_iff.mp hz).2))
  have hF : ∀ z, z < 14 ∨ 52 ≤ z → (po_d14 z || po_in 21 z) = false := fun z hz => by
    rw [po_in_no (by omega), show po_d14 z = false from decide_eq_false (by omega)]
    rfl
  have y7n : y7.1 = ez_A.1 := F.2.1.trans x1
  rw [show gX1_addProduct 14 0 20 X = some y1 from e1, Option.bind_some, show gX1_addProduct 14 1 50 y1 = some y2 from e2, Option.bind_some, show gX1_addProduct 14 2 10 y2 = some y3 from e3, Option.bind_some, show gX7_addBatch 21 0 30 5 12 y3 = some (_, y4) from e4, Option.bind_some]
  dsimp only
  rw [show gX7_addBatch 21 0 20 3 10 y4 = some (_, y5) from e5, Option.bind_some]
  dsimp only
  rw [show gX7_addBatch 21 1 100 200 4 y5 = some (_, y6) from e6, Option.bind_some]
  dsimp only
  rw [show gX7_addBatch 21 2 24 9 3 y6 = some (_, y7) from e7, Option.bind_some]
  dsimp only
  rw [if_pos (show mh_c y7 = mh_n y7 by unfold mh_c mh_n; rw [y7n]; exact n2.trans n1.symm)]
  have zz : ∀ o k, (o < 14 ∨ 52 ≤ o) → o < 352 → o ≠ 5 → mh_I y7 o k = 0 := fun o k h1 h2 h3 => (F.1 o (hF o h1) k).trans (z o k h2 h3)
  refine ⟨y7, rfl, y7n, F.2.2.1.trans xR, F.2.2.2.1.trans xJ, F.2.2.2.2.trans xD, fun o ho k => ?_, ⟨sc_C_fr C3 f47 (by decide) (by decide) (by decide) (by decide), S7⟩, ⟨⟨0, by decide, zz 90 1 (by decide) (by decide) (by decide), zz 90 2 (by decide) (by decide) (by decide), fun i S hi => (by cases hi)⟩, fun k hk => ⟨?_, fun S hS => (by cases hS)⟩⟩, ⟨⟨zz 1 1 (by decide) (by decide) (by decide), fun j hj => absurd hj (Nat.not_lt_zero _)⟩, ⟨zz 3 1 (by decide) (by decide) (by decide), fun j hj => absurd hj (Nat.not_lt_zero _)⟩⟩, ?_, ?_⟩
  · rw [F.1 o (hF o (by omega)) k, xI, if_neg (by omega)]
  · rw [zz 284 k (by decide) (by decide) (by decide)]
    exact ⟨fun w => absurd w (by decide), fun w => by cases w⟩
  · rw [F.1 5 (hF 5 (by decide)), xI, if_neg (by decide), hI 5 1 (by decide)]
    rfl
  · rw [F.1 5 (hF 5 (by decide)), xI, if_pos ⟨rfl, rfl⟩]
    rfl
end PRN

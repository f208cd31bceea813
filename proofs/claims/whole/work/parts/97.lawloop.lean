section PRI
/-! the law: its loop (gen97.py) -/
variable {A : sp_A} {h : mm_H} {i : Int32} {j : mm_H → Option (Bool × mm_H)}
def lw_X (h : mm_H) (X : Option (Bool × mm_H)) (j : mm_H → Option (Bool × mm_H)) : Prop := ∃ A' h2, X = j h2 ∧ lw_R A' h2 ∧ lw_st h h2
theorem lw_if {p : Prop} [Decidable p] {a b : Option (Bool × mm_H)} (ha : p → lw_X h a j) (hb : ¬ p → lw_X h b j) : lw_X h (if p then a else b) j := by
  by_cases hp : p
  · rw [if_pos hp]
    exact ha hp
  · rw [if_neg hp]
    exact hb hp
theorem lw_disp (g : lw_g i h) (H : lw_R A h) (x : Int32) : lw_X h (
    if x = 0 then gL_c304 i j h else
    if x = 1 then gL_c408 i j h else
    if x = 2 then gL_c464 i j h else
    if x = 3 then gL_c508 i j h else
    if x = 4 then gL_c521 i j h else
    if x = 5 then gL_c534 i j h else
    if x = 6 then gL_c547 i j h else
    if x = 7 then gL_c560 i j h else
    if x = 8 then gL_c628 i j h else
    if x = 9 then gL_c672 i j h else
    if x = 10 then gL_c728 i j h else
    if x = 11 then gL_c784 i j h else
    if x = 12 then gL_c840 i j h else
    if x = 13 then gL_c908 i j h else
    if x = 14 then gL_c964 i j h else
    if x = 15 then gL_c1032 i j h else
    if x = 16 then gL_c1088 i j h else
    if x = 17 then gL_c1101 i j h else
    if x = 18 then gL_c1157 i j h else
    if x = 19 then gL_c1170 i j h else
    if x = 20 then gL_c1183 i j h else
    if x = 21 then gL_c1239 i j h else
    if x = 22 then gL_c1295 i j h else
    if x = 23 then gL_c1351 i j h else
    if x = 24 then gL_c1407 i j h else
    if x = 25 then gL_c1463 i j h else
    if x = 26 then gL_c1526 i j h else
    if x = 27 then gL_c1594 i j h else
    if x = 28 then gL_c1662 i j h else
    if x = 29 then gL_c1675 i j h else
    if x = 30 then gL_c1731 i j h else
    if x = 31 then gL_c1787 i j h else
    if x = 32 then gL_c1850 i j h else
    if x = 33 then gL_c1906 i j h else
    if x = 34 then gL_c1974 i j h else
    if x = 35 then gL_c2030 i j h else
    if x = 36 then gL_c2043 i j h else
    if x = 37 then gL_c2099 i j h else
    if x = 38 then gL_c2155 i j h else
    if x = 39 then gL_c2211 i j h else
    if x = 40 then gL_c2267 i j h else
    if x = 41 then gL_c2344 i j h else
    if x = 42 then gL_c2422 i j h else
    if x = 43 then gL_c2435 i j h else
    if x = 44 then gL_c2503 i j h else
    if x = 45 then gL_c2583 i j h else
    if x = 46 then gL_c2639 i j h else
    if x = 47 then gL_c2731 i j h else
    if x = 48 then gL_c2799 i j h else
    if x = 49 then gL_c2879 i j h else
    if x = 50 then gL_c2935 i j h else
    if x = 51 then gL_c2991 i j h else
    if x = 52 then gL_c3047 i j h else
    if x = 53 then gL_c3115 i j h else
    if x = 54 then gL_c3128 i j h else
    if x = 55 then gL_c3184 i j h else
    if x = 56 then gL_c3228 i j h else
    if x = 57 then gL_c3272 i j h else
    if x = 58 then gL_c3328 i j h else
    if x = 59 then gL_c3384 i j h else
    if x = 60 then gL_c3440 i j h else
    j h) j := by
  refine lw_if (fun _ => cs_304 g H) (fun _ => ?_)
  refine lw_if (fun _ => cs_408 g H) (fun _ => ?_)
  refine lw_if (fun _ => cs_464 g H) (fun _ => ?_)
  refine lw_if (fun _ => cs_508 g H) (fun _ => ?_)
  refine lw_if (fun _ => cs_521 g H) (fun _ => ?_)
  refine lw_if (fun _ => cs_534 g H) (fun _ => ?_)
  refine lw_if (fun _ => cs_547 g H) (fun _ => ?_)
  refine lw_if (fun _ => cs_560 g H) (fun _ => ?_)
  refine lw_if (fun _ => cs_628 g H) (fun _ => ?_)
  refine lw_if (fun _ => cs_672 g H) (fun _ => ?_)
  refine lw_if (fun _ => cs_728 g H) (fun _ => ?_)
  refine lw_if (fun _ => cs_784 g H) (fun _ => ?_)
  refine lw_if (fun _ => cs_840 g H) (fun _ => ?_)
  refine lw_if (fun _ => cs_908 g H) (fun _ => ?_)
  refine lw_if (fun _ => cs_964 g H) (fun _ => ?_)
  refine lw_if (fun _ => cs_1032 g H) (fun _ => ?_)
  refine lw_if (fun _ => cs_1088 g H) (fun _ => ?_)
  refine lw_if (fun _ => cs_1101 g H) (fun _ => ?_)
  refine lw_if (fun _ => cs_1157 g H) (fun _ => ?_)
  refine lw_if (fun _ => cs_1170 g H) (fun _ => ?_)
  refine lw_if (fun _ => cs_1183 g H) (fun _ => ?_)
  refine lw_if (fun _ => cs_1239 g H) (fun _ => ?_)
  refine lw_if (fun _ => cs_1295 g H) (fun _ => ?_)
  refine lw_if (fun _ => cs_1351 g H) (fun _ => ?_)
  refine lw_if (fun _ => cs_1407 g H) (fun _ => ?_)
  refine lw_if (fun _ => cs_1463 g H) (fun _ => ?_)
  refine lw_if (fun _ => cs_1526 g H) (fun _ => ?_)
  refine lw_if (fun _ => cs_1594 g H) (fun _ => ?_)
  refine lw_if (fun _ => cs_1662 g H) (fun _ => ?_)
  refine lw_if (fun _ => cs_1675 g H) (fun _ => ?_)
  refine lw_if (fun _ => cs_1731 g H) (fun _ => ?_)
  refine lw_if (fun _ => cs_1787 g H) (fun _ => ?_)
  refine lw_if (fun _ => cs_1850 g H) (fun _ => ?_)
  refine lw_if (fun _ => cs_1906 g H) (fun _ => ?_)
  refine lw_if (fun _ => cs_1974 g H) (fun _ => ?_)
  refine lw_if (fun _ => cs_2030 g H) (fun _ => ?_)
  refine lw_if (fun _ => cs_2043 g H) (fun _ => ?_)
  refine lw_if (fun _ => cs_2099 g H) (fun _ => ?_)
  refine lw_if (fun _ => cs_2155 g H) (fun _ => ?_)
  refine lw_if (fun _ => cs_2211 g H) (fun _ => ?_)
  refine lw_if (fun _ => cs_2267 g H) (fun _ => ?_)
  refine lw_if (fun _ => cs_2344 g H) (fun _ => ?_)
  refine lw_if (fun _ => cs_2422 g H) (fun _ => ?_)
  refine lw_if (fun _ => cs_2435 g H) (fun _ => ?_)
  refine lw_if (fun _ => cs_2503 g H) (fun _ => ?_)
  refine lw_if (fun _ => cs_2583 g H) (fun _ => ?_)
  refine lw_if (fun _ => cs_2639 g H) (fun _ => ?_)
  refine lw_if (fun _ => cs_2731 g H) (fun _ => ?_)
  refine lw_if (fun _ => cs_2799 g H) (fun _ => ?_)
  refine lw_if (fun _ => cs_2879 g H) (fun _ => ?_)
  refine lw_if (fun _ => cs_2935 g H) (fun _ => ?_)
  refine lw_if (fun _ => cs_2991 g H) (fun _ => ?_)
  refine lw_if (fun _ => cs_3047 g H) (fun _ => ?_)
  refine lw_if (fun _ => cs_3115 g H) (fun _ => ?_)
  refine lw_if (fun _ => cs_3128 g H) (fun _ => ?_)
  refine lw_if (fun _ => cs_3184 g H) (fun _ => ?_)
  refine lw_if (fun _ => cs_3228 g H) (fun _ => ?_)
  refine lw_if (fun _ => cs_3272 g H) (fun _ => ?_)
  refine lw_if (fun _ => cs_3328 g H) (fun _ => ?_)
  refine lw_if (fun _ => cs_3384 g H) (fun _ => ?_)
  refine lw_if (fun _ => cs_3440 g H) (fun _ => ?_)
  exact ⟨A, h, rfl, H, rfl, Nat.le_succ _, Nat.le_add_right _ _, rfl⟩
theorem lw_sub6 {N I : Nat} (hN : N ≤ 3072) (hI : I ≤ 4000) : (nI N - 6 < nI I) ↔ N < I + 6 := by
  rcases Nat.lt_or_ge N 6 with h6 | h6
  · refine ⟨fun _ => by omega, fun _ => ?_⟩
    have hs : N = 0 ∨ N = 1 ∨ N = 2 ∨ N = 3 ∨ N = 4 ∨ N = 5 := by omega
    have hneg : nI N - 6 < 0 := by
      rcases hs with rfl | rfl | rfl | rfl | rfl | rfl <;> decide
    exact Int32.lt_of_lt_of_le hneg (Int32.not_lt.mp (nI_pos (by omega)))
  · rw [show (6 : Int32) = nI 6 from rfl, pk_sub h6]
    constructor
    · intro z
      rcases Nat.lt_or_ge N (I + 6) with h1 | h1
      · exact h1
      · exact absurd z (nI_nlt (by omega) (by omega))
    · intro z
      exact nI_lt (by omega) (by omega)
theorem lw_isb {I k N : Nat} {x : Int32} (hx : x = nI k) (h : I + k < N) (hN : N ≤ 3072) : mm_isb (nI I + x) (nI N) = true := by
  unfold mm_isb
  rw [hx, nI_add]
  exact decide_eq_true ⟨nI_pos (by omega), nI_lt h (by omega)⟩
theorem lw_isb0 {I N : Nat} (h : I < N) (hN : N ≤ 3072) : mm_isb (nI I) (nI N) = true := by
  unfold mm_isb
  exact decide_eq_true ⟨nI_pos (by omega), nI_lt h (by omega)⟩
theorem lw_loop {N : Nat} (hN : N ≤ 3072) : ∀ m n I h A, lw_R A h → mh_I h 360 0 = nI N → N ≤ I + 6 * m → I ≤ 4000 → m < n →
    ∃ h', gL_loop n (nI I) h = some (true, h') ∧ mh_n h' = mh_n h ∧ mh_c h' ≤ mh_c h + m ∧ mh_w h' ≤ mh_w h + 6 * m := by
  intro m
  induction m with
  | zero =>
    intro n I h A H h0 h1 h4 hn
    obtain ⟨n, rfl⟩ : ∃ k, n = k + 1 := ⟨n - 1, by omega⟩
    rw [gL_loop, h0, if_pos ((lw_sub6 hN h4).mpr (by omega))]
    exact ⟨h, rfl, rfl, Nat.le_refl _, Nat.le_refl _⟩
  | succ m ih =>
    intro n I h A H h0 h1 h4 hn
    obtain ⟨n, rfl⟩ : ∃ k, n = k + 1 := ⟨n - 1, by omega⟩
    rw [gL_loop, h0]
    by_cases h6 : N < I + 6
    · rw [if_pos ((lw_sub6 hN h4).mpr h6)]
      exact ⟨h, rfl, rfl, Nat.le_add_right _ _, Nat.le_add_right _ _⟩
    · rw [if_neg (fun z => h6 ((lw_sub6 hN h4).mp z)), if_pos (lw_isb0 (by omega) hN), Option.bind_some]
      generalize ej : mm_jn _ _ = X
      obtain ⟨k1, g1, ej⟩ := po_jx ej
      rw [ej]
      have hg : lw_g (nI I) h := by
        unfold lw_g
        rw [h0]
        exact ⟨lw_isb (k := 1) rfl (by omega) hN, lw_isb (k := 2) rfl (by omega) hN, lw_isb (k := 3) rfl (by omega) hN, lw_isb (k := 4) rfl (by omega) hN, lw_isb (k := 5) rfl (by omega) hN⟩
      obtain ⟨A', h2, e1, r, l1, l2, l3, l4⟩ := lw_disp (j := k1) hg H (mh_I h 360 (Int32.toNatClampNeg (nI I) + 1) &&& 63)
      obtain ⟨h', e2, b1, b2, b3⟩ := ih n (I + 6) h2 A' r (by rw [l4]; exact h0) (by omega) (by omega) (by omega)
      refine ⟨h', ?_, b1.trans l1, by omega, by omega⟩
      rw [e1, g1]
      dsimp only
      rw [show nI I + 6 = nI (I + 6) from nI_add I 6, Option.bind_some]
      exact e2
end PRI

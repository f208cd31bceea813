section PPV2
/-! the setup's text is understood: batches, the whole -/
variable {T : sp_T} {i : Nat}
theorem tx_nerr {s e v lo hi : Nat} (h1 : lo ≤ v) (h2 : v ≤ hi) : sp_nerr (2, s, e, v) lo hi = none := by
  unfold sp_nerr
  rw [if_pos (show sk_k (2, s, e, v) = 2 from rfl), if_pos (show lo ≤ sk_v (2, s, e, v) ∧ sk_v (2, s, e, v) ≤ hi from ⟨h1, h2⟩)]
theorem tx_bat {C : sp_C} {S : sp_S} {k q a b c : Nat} {R : List Nat} (ha : 1 ≤ a ∧ a < 100) (hb : b < 100) (hc : 1 ≤ c ∧ c < 100) (hq : q < k) (hk : k ≤ 8) (hC : tx_C C k)
    (h : tx_at T i (tx_bw ++ [97 + q] ++ [32] ++ tx_D a ++ [32] ++ tx_D b ++ [32] ++ tx_D c ++ [59] ++ R)) : sp_isw T (sp_tok T i) 5 = true ∧ sp_isw T (sp_tok T i) 4 = false ∧ ∃ j, sp_bat T C S (sp_nx T (sp_tok T i)) = .inr (sp_add S q a b c, sp_tok T j) ∧ tx_at T j R := by
  have e : tx_bw ++ [97 + q] ++ [32] ++ tx_D a ++ [32] ++ tx_D b ++ [32] ++ tx_D c ++ [59] ++ R = [] ++ (([98, 97, 116, 99, 104] : List Nat) ++ ([32] ++ ([112, 97 + q] ++ ([32] ++ (tx_D a ++ ([32] ++ (tx_D b ++ ([32] ++ (tx_D c ++ (59 :: R)))))))))) := by
    simp [tx_bw]
  rw [e] at h
  have n32 : ∀ (L : List Nat) y r', ([32] ++ L : List Nat) = y :: r' → sp_isL y = false := fun L y r' e => by rw [← (List.cons.inj e).1]; rfl
  have m32 : ∀ (L : List Nat) y r', ([32] ++ L : List Nat) = y :: r' → sp_isD y = false := fun L y r' e => by rw [← (List.cons.inj e).1]; rfl
  obtain ⟨a1, a2, a3⟩ := tx_word h (fun y hy => by cases hy) (by decide) (by decide) (n32 _)
  obtain ⟨b1, b2, b3⟩ := tx_word a3 (by decide) (by
    intro y hy
    simp at hy
    rcases hy with rfl | rfl
    · decide
    · exact decide_eq_true (by omega)) (by simp) (n32 _)
  obtain ⟨c1, c2⟩ := tx_num ha.2 b3 (by decide) (m32 _)
  obtain ⟨c3, c4⟩ := tx_num hb c2 (by decide) (m32 _)
  obtain ⟨c5, c6⟩ := tx_num hc.2 c4 (by decide) (fun y r' e => by rw [← (List.cons.inj e).1]; rfl)
  obtain ⟨d1, d2⟩ := tx_semi c6
  generalize hx0 : i + ([] : List Nat).length = x0 at *
  generalize hx1 : x0 + ([98, 97, 116, 99, 104] : List Nat).length = x1 at *
  generalize hx2 : x1 + ([32] : List Nat).length = x2 at *
  generalize hx3 : x2 + ([112, 97 + q] : List Nat).length = x3 at *
  generalize hx4 : x3 + ([32] : List Nat).length = x4 at *
  generalize hx5 : x4 + (tx_D a).length = x5 at *
  generalize hx6 : x5 + ([32] : List Nat).length = x6 at *
  generalize hx7 : x6 + (tx_D b).length = x7 at *
  generalize hx8 : x7 + ([32] : List Nat).length = x8 at *
  generalize hx9 : x8 + (tx_D c).length = x9 at *
  have t0 : T.2 x2 = 112 := (tx_at_c b2).2.1
  have t1 : T.2 (x2 + 1) = 97 + q := (tx_at_c (tx_at_c b2).2.2).2.1
  have e1 : sp_nx T (sp_tok T i) = (1, x2, x3, 0) := by rw [a1]; exact b1
  have e2 : sp_nx T (1, x2, x3, 0) = (2, x4, x5, a) := c1
  have e3 : sp_nx T (2, x4, x5, a) = (2, x6, x7, b) := c3
  have e4 : sp_nx T (2, x6, x7, b) = (2, x8, x9, c) := c5
  have e5 : sp_nx T (2, x8, x9, c) = (3, x9, x9 + 1, 0) := d1
  have e6 : sp_nx T (3, x9, x9 + 1, 0) = sp_tok T (x9 + 1) := rfl
  have h23 : x3 - x2 = 2 := by
    rw [← hx3]
    show x2 + 2 - x2 = 2
    omega
  have hnm : sp_nm T C (1, x2, x3, 0) = some q := by
    show sp_named T C x2 (x3 - x2) = some q
    rw [h23]
    refine tx_find (Nat.zero_le q) (by rw [hC.1]; omega) ?_ (fun x _ hx => ?_)
    · rw [tx_nameq hC t0 t1 hq]
      exact decide_eq_true rfl
    · rw [tx_nameq hC t0 t1 (show x < k by omega)]
      exact decide_eq_false (by omega)
  refine ⟨?_, ?_, x9 + 1, ?_, d2⟩
  · rw [a1]
    exact tx_isw (L := tx_w5) a2 rfl tx_c5 hx1.symm
  · rw [a1]
    refine decide_eq_false (fun z => ?_)
    have h5 : x1 - x0 = mm_sn 4 := z.2.1
    rw [← hx1, show mm_sn 4 = 7 from rfl, show x0 + ([98, 97, 116, 99, 104] : List Nat).length = x0 + 5 from rfl] at h5
    omega
  · rw [e1]
    unfold sp_bat
    have hn : sp_knerr T C (1, x2, x3, 0) = none := by
      unfold sp_knerr
      rw [hnm, if_pos (show sk_k (1, x2, x3, 0) = 1 from rfl), if_pos (show (some q).isSome = true from rfl)]
    rw [hn, e2, e3, e4, e5, e6, tx_nerr ha.1 (show a ≤ 999 by omega), tx_nerr (Nat.zero_le b) (show b ≤ 9999 by omega), tx_nerr hc.1 (show c ≤ 999 by omega), hnm]
    rfl
theorem tx_bats {C : sp_C} {P : Nat} (hP0 : 0 < P) (hP : P ≤ 8) (hC : tx_C C P) (f : Nat → Nat) : ∀ d m k i S, d < m → sp_ok S → sp_inv S → sp_nb S + d ≤ 20 → tx_at T i (tx_B P f k d) → ∃ S', sp_bats T C m S (sp_tok T i) = .inr S' ∧ sp_inv S' := by
  intro d
  induction d with
  | zero =>
    intro m k i S hm ok I hn h
    obtain ⟨m, rfl⟩ : ∃ m', m = m' + 1 := ⟨m - 1, by omega⟩
    have h' : tx_at T i [] := h
    refine ⟨S, ?_, I⟩
    rw [sp_bats, tx_fin h', if_neg (show ¬ sp_isw T (0, i, i, 0) 5 = true from fun z => absurd (of_decide_eq_true z).1 (show ¬ (0 : Nat) = 1 by decide)), if_pos (show sk_k (0, i, i, 0) = 0 from rfl)]
  | succ d ih =>
    intro m k i S hm ok I hn h
    obtain ⟨m, rfl⟩ : ∃ m', m = m' + 1 := ⟨m - 1, by omega⟩
    rw [tx_B] at h
    have hq := Nat.mod_lt (f k) hP0
    obtain ⟨g1, -, j, g2, g3⟩ := tx_bat (S := S) (q := f k % P) (a := 1 + f k / 8 % 20) (b := f k / 256 % 16) (c := 1 + f k / 8192 % 30) ⟨by omega, by omega⟩ (by omega) ⟨by omega, by omega⟩ hq hP hC h
    have okS := sp_add_ok ok (p := f k % P) (q := 1 + f k / 8 % 20) (e := f k / 256 % 16) (c := 1 + f k / 8192 % 30) (by omega) (by omega) (by omega) (by omega) (by omega)
    obtain ⟨S', k1, k2⟩ := ih m (k + 1) j _ (by omega) okS (sp_inv_add ok I (by omega)) (show sp_nb S + 1 + d ≤ 20 by omega) g3
    refine ⟨S', ?_, k2⟩
    rw [sp_bats, if_pos g1, if_pos (show sp_nb S < 20 by omega), g2]
    exact k1
theorem tx_isw0 (h : tx_at T i []) : sp_isw T (sp_tok T i) 4 = false := by
  rw [tx_fin h]
  exact decide_eq_false (fun z => absurd z.1 (show ¬ (0 : Nat) = 1 by decide))
theorem tx_setup {P B : Nat} {f g : Nat → Nat} (hP0 : 0 < P) (hP : P ≤ 8) (hB : B ≤ 9) (hf : ∀ k, f k < 100) (h : tx_at T 0 (tx_W ++ tx_P f 0 P ++ tx_B P g 0 B)) : ∃ C S, sp_setup T = .inr (C, S) ∧ sp_np C = P ∧ sp_inv S := by
  have e : tx_W ++ tx_P f 0 P ++ tx_B P g 0 B = [] ++ (([119, 97, 114, 101, 104, 111, 117, 115, 101] : List Nat) ++ (59 :: (tx_P f 0 P ++ tx_B P g 0 B))) := by
    simp [tx_W]
  rw [e] at h
  obtain ⟨a1, a2, a3⟩ := tx_word h (fun y hy => by cases hy) (by decide) (by decide) (fun y r' e => by rw [← (List.cons.inj e).1]; rfl)
  obtain ⟨b1, b2⟩ := tx_semi a3
  generalize hx0 : 0 + ([] : List Nat).length = x0 at *
  generalize hx1 : x0 + ([119, 97, 114, 101, 104, 111, 117, 115, 101] : List Nat).length = x1 at *
  have hR : ∀ j, tx_at T j (tx_B P g 0 B) → sp_isw T (sp_tok T j) 4 = false := fun j hj => by
    cases B with
    | zero => exact tx_isw0 hj
    | succ B' =>
      rw [tx_B] at hj
      have hq := Nat.mod_lt (g 0) hP0
      have C0 : tx_C (P, (fun _ => 2), (fun p j => if j = 0 then 112 else 97 + p), (fun _ => 0)) P := ⟨rfl, fun p _ => ⟨rfl, rfl, rfl⟩⟩
      exact (tx_bat (S := sp_S0) (q := g 0 % P) (a := 1 + g 0 / 8 % 20) (b := g 0 / 256 % 16) (c := 1 + g 0 / 8192 % 30) ⟨by omega, by omega⟩ (by omega) ⟨by omega, by omega⟩ hq hP C0 hj).2.1
  have hC0 : tx_C sp_C0 0 := ⟨rfl, fun p hp => absurd hp (Nat.not_lt_zero p)⟩
  obtain ⟨C, j, c1, c2, c3⟩ := tx_prods hf hR P 9 0 (x1 + 1) sp_C0 (by omega) (by omega) hC0 b2
  rw [Nat.zero_add] at c2
  obtain ⟨S, d1, d2⟩ := tx_bats hP0 hP c2 g B 21 0 j sp_S0 (by omega) sp_S0_ok sp_inv_0 (show 0 + B ≤ 20 by omega) c3
  have g4 : sp_isw T (sp_tok T (x1 + 1)) 4 = true := by
    obtain ⟨P', rfl⟩ : ∃ P', P = P' + 1 := ⟨P - 1, by omega⟩
    rw [tx_P, List.append_assoc] at b2
    exact (tx_prod (hf 0) (by omega) hC0 b2).1
  refine ⟨C, S, ?_, c2.1, d2⟩
  have w1 : sp_isw T (sp_tok T 0) 3 = true := by
    rw [a1]
    exact tx_isw (L := tx_w3) a2 rfl tx_c3 hx1.symm
  have e1 : sp_nx T (sp_tok T 0) = (3, x1, x1 + 1, 0) := by rw [a1]; exact b1
  have e2 : sp_nx T (3, x1, x1 + 1, 0) = sp_tok T (x1 + 1) := rfl
  unfold sp_setup
  rw [if_pos w1, e1, e2, if_pos (show sk_k (3, x1, x1 + 1, 0) = 3 from rfl), if_pos g4, c1]
  unfold sp_setup2
  dsimp only
  rw [d1]
end PPV2

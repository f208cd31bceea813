section PPU2
/-! the setup's text is understood: products and batches -/
variable {T : sp_T} {i : Nat}
/-- the catalog of k products pa, pb, .. -/
def tx_C (C : sp_C) (k : Nat) : Prop := sp_np C = k ∧ ∀ p, p < k → sp_nl C p = 2 ∧ sp_lt C p 0 = 112 ∧ sp_lt C p 1 = 97 + p
theorem tx_find {q : Nat → Bool} : ∀ {m i p : Nat}, i ≤ p → p < i + m → q p = true → (∀ x, i ≤ x → x < p → q x = false) → sp_find q m i = some p
  | 0, i, p, h1, h2, _, _ => by omega
  | m + 1, i, p, h1, h2, h3, h4 => by
    rw [sp_find]
    by_cases hip : i = p
    · rw [hip, if_pos h3]
    · rw [if_neg (by rw [h4 i (Nat.le_refl i) (by omega)]; decide)]
      exact tx_find (by omega) (by omega) h3 (fun x hx hx2 => h4 x (by omega) hx2)
theorem tx_nofind {q : Nat → Bool} : ∀ {m i : Nat}, (∀ x, i ≤ x → x < i + m → q x = false) → sp_find q m i = none
  | 0, i, _ => rfl
  | m + 1, i, h => by
    rw [sp_find, if_neg (by rw [h i (Nat.le_refl i) (by omega)]; decide)]
    exact tx_nofind (fun x hx hx2 => h x (by omega) (by omega))
theorem tx_nameq {C : sp_C} {k a c p : Nat} (hC : tx_C C k) (h0 : T.2 a = 112) (h1 : T.2 (a + 1) = 97 + c) (hp : p < k) : sp_nameq T C a 2 p = decide (p = c) := by
  obtain ⟨n1, n2, n3⟩ := hC.2 p hp
  unfold sp_nameq
  refine decide_eq_decide.mpr ⟨fun z => ?_, fun z => ⟨n1, fun j hj => ?_⟩⟩
  · have := z.2 1 (by decide)
    rw [n3, h1] at this
    omega
  · rcases (show j = 0 ∨ j = 1 by omega) with rfl | rfl
    · rw [n2, Nat.add_zero, h0]
    · rw [n3, h1, z]
/-- one product's entry -/
theorem tx_prod {C : sp_C} {k x : Nat} {R : List Nat} (hx : x < 100) (hk : k < 8) (hC : tx_C C k) (h : tx_at T i (tx_p k x ++ R)) : sp_isw T (sp_tok T i) 4 = true ∧ ∃ C' j, sp_prod T C (sp_nx T (sp_tok T i)) = .inr (C', sp_tok T j) ∧ tx_C C' (k + 1) ∧ tx_at T j R := by
  have e : tx_p k x ++ R = [] ++ (([112, 114, 111, 100, 117, 99, 116] : List Nat) ++ ([32] ++ ([112, 97 + k] ++ ([32] ++ (tx_D x ++ (59 :: R)))))) := by
    simp [tx_p, tx_pw]
  rw [e] at h
  have n32 : ∀ (L : List Nat) y r', ([32] ++ L : List Nat) = y :: r' → sp_isL y = false := fun L y r' e => by rw [← (List.cons.inj e).1]; rfl
  obtain ⟨a1, a2, a3⟩ := tx_word h (fun y hy => by cases hy) (by decide) (by decide) (n32 _)
  obtain ⟨b1, b2, b3⟩ := tx_word a3 (by decide) (by
    intro y hy
    simp at hy
    rcases hy with rfl | rfl
    · decide
    · exact decide_eq_true (by omega)) (by simp) (n32 _)
  obtain ⟨c1, c2⟩ := tx_num hx b3 (by decide) (fun y r' e => by rw [← (List.cons.inj e).1]; rfl)
  obtain ⟨d1, d2⟩ := tx_semi c2
  generalize ha : i + ([] : List Nat).length = a0 at *
  generalize hb : a0 + ([112, 114, 111, 100, 117, 99, 116] : List Nat).length = a1' at *
  generalize hc : a1' + ([32] : List Nat).length = a2' at *
  have hw : ([112, 97 + k] : List Nat).length = 2 := rfl
  rw [hw] at *
  have t0 : T.2 a2' = 112 := (tx_at_c b2).2.1
  have t1 : T.2 (a2' + 1) = 97 + k := (tx_at_c (tx_at_c b2).2.2).2.1
  have e1 : sp_nx T (sp_tok T i) = (1, a2', a2' + 2, 0) := by rw [a1]; exact b1
  have e2 : sp_nx T (1, a2', a2' + 2, 0) = (2, a2' + 2 + ([32] : List Nat).length, a2' + 2 + ([32] : List Nat).length + (tx_D x).length, x) := c1
  have hnm : sp_nm T C (1, a2', a2' + 2, 0) = none := by
    show sp_named T C a2' (a2' + 2 - a2') = none
    rw [Nat.add_sub_cancel_left]
    refine tx_nofind (fun p _ hp => ?_)
    rw [hC.1, Nat.zero_add] at hp
    rw [tx_nameq hC t0 t1 hp]
    exact decide_eq_false (by omega)
  refine ⟨?_, sp_addC C T a2' 2 x, _, ?_, ⟨congrArg (· + 1) hC.1, fun p hp => ?_⟩, d2⟩
  · rw [a1]
    exact tx_isw (L := tx_w4) a2 rfl tx_c4 hb.symm
  · rw [e1]
    unfold sp_prod
    have hn : sp_namerr T C (1, a2', a2' + 2, 0) = none := by
      unfold sp_namerr
      rw [hnm, if_pos (show sk_k (1, a2', a2' + 2, 0) = 1 from rfl), if_pos (show sk_e (1, a2', a2' + 2, 0) - sk_s (1, a2', a2' + 2, 0) ≤ 6 ∧ (none : Option Nat).isSome = false from ⟨(show a2' + 2 - a2' ≤ 6 by omega), rfl⟩)]
    have hne : sp_nerr (sp_nx T (1, a2', a2' + 2, 0)) 0 999 = none := by
      rw [e2]
      unfold sp_nerr
      rw [if_pos (show sk_k (2, _, _, x) = 2 from rfl), if_pos (show 0 ≤ sk_v (2, _, _, x) ∧ sk_v (2, _, _, x) ≤ 999 from ⟨Nat.zero_le _, (show x ≤ 999 by omega)⟩)]
    rw [hn]
    dsimp only
    rw [hne]
    dsimp only
    have e3 : sp_nx T (sp_nx T (1, a2', a2' + 2, 0)) = (3, a2' + 2 + ([32] : List Nat).length + (tx_D x).length, a2' + 2 + ([32] : List Nat).length + (tx_D x).length + 1, 0) := by rw [e2]; exact d1
    rw [e3, if_pos (show sk_k (3, _, _, 0) = 3 from rfl), e2]
    show Sum.inr (sp_addC C T a2' (a2' + 2 - a2') x, _) = _
    rw [Nat.add_sub_cancel_left]
    rfl
  · have g : ∀ {β : Type} (u v : β), (if p = sp_np C then u else v) = if p = k then u else v := fun u v => by rw [hC.1]
    show (if p = sp_np C then 2 else sp_nl C p) = 2 ∧ (if p = sp_np C then T.2 (a2' + 0) else sp_lt C p 0) = 112 ∧ (if p = sp_np C then T.2 (a2' + 1) else sp_lt C p 1) = 97 + p
    rw [g, g, g]
    by_cases hpk : p = k
    · rw [if_pos hpk, if_pos hpk, if_pos hpk, Nat.add_zero, t0, t1, hpk]
      exact ⟨rfl, rfl, rfl⟩
    · rw [if_neg hpk, if_neg hpk, if_neg hpk]
      exact hC.2 p (by omega)
/-- all products; what follows is no product -/
theorem tx_prods {f : Nat → Nat} (hf : ∀ k, f k < 100) {R : List Nat} (hR : ∀ j, tx_at T j R → sp_isw T (sp_tok T j) 4 = false) : ∀ d m k i C, k + d ≤ 8 → d < m → tx_C C k → tx_at T i (tx_P f k d ++ R) → ∃ C' j, sp_prods T m C (sp_tok T i) = .inr (C', sp_tok T j) ∧ tx_C C' (k + d) ∧ tx_at T j R := by
  intro d
  induction d with
  | zero =>
    intro m k i C hk hm hC h
    obtain ⟨m, rfl⟩ : ∃ m', m = m' + 1 := ⟨m - 1, by omega⟩
    have h' : tx_at T i R := h
    refine ⟨C, i, ?_, hC, h'⟩
    rw [sp_prods, if_neg (by rw [hR i h']; decide)]
  | succ d ih =>
    intro m k i C hk hm hC h
    obtain ⟨m, rfl⟩ : ∃ m', m = m' + 1 := ⟨m - 1, by omega⟩
    rw [tx_P, List.append_assoc] at h
    obtain ⟨g1, C1, j1, g2, g3, g4⟩ := tx_prod (hf k) (by omega) hC h
    obtain ⟨C', j, k1, k2, k3⟩ := ih m (k + 1) j1 C1 (by omega) (by omega) g3 g4
    refine ⟨C', j, ?_, by rw [show k + (d + 1) = k + 1 + d by omega]; exact k2, k3⟩
    rw [sp_prods, if_pos g1, if_pos (by rw [hC.1]; omega), g2]
    exact k1
end PPU2

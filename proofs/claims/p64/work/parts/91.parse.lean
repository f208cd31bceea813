section PPT2
/-! the setup's text is understood: tokens -/
variable {T : sp_T} {i : Nat}
/-- the rest of the text from i on -/
def tx_at (T : sp_T) (i : Nat) (L : List Nat) : Prop := T.1 = i + L.length ∧ ∀ j, j < L.length → T.2 (i + j) = L.getD j 0
theorem tx_at_c {c : Nat} {L : List Nat} (h : tx_at T i (c :: L)) : i < T.1 ∧ T.2 i = c ∧ tx_at T (i + 1) L := by
  obtain ⟨h1, h2⟩ := h
  rw [List.length_cons] at h1
  refine ⟨by omega, ?_, by omega, fun j hj => ?_⟩
  · have := h2 0 (by rw [List.length_cons]; omega)
    exact this
  · have := h2 (j + 1) (by rw [List.length_cons]; omega)
    rw [show i + 1 + j = i + (j + 1) by omega, this]
    rfl
theorem tx_end0 {c : Nat → Bool} {r : List Nat} (h : tx_at T i r) (hr : ∀ x r', r = x :: r' → c x = false) : sp_end T c i = i := by
  unfold sp_end
  cases r with
  | nil =>
    have h1 : T.1 = i + 0 := h.1
    rw [show T.1 - i = 0 by omega]
    rfl
  | cons x r' =>
    obtain ⟨h1, h2, -⟩ := tx_at_c h
    obtain ⟨m, hm⟩ : ∃ m, T.1 - i = m + 1 := ⟨T.1 - i - 1, by omega⟩
    rw [hm, sp_endk, h2, if_neg (by rw [hr x r' rfl]; decide)]
theorem tx_run {c : Nat → Bool} {r : List Nat} : ∀ {w : List Nat} {i : Nat}, tx_at T i (w ++ r) → (∀ x, x ∈ w → c x = true) → (∀ x r', r = x :: r' → c x = false) → sp_end T c i = i + w.length ∧ tx_at T (i + w.length) r
  | [], i, h, _, hr => ⟨tx_end0 h hr, h⟩
  | x :: w, i, h, hw, hr => by
    obtain ⟨h1, h2, h3⟩ := tx_at_c h
    obtain ⟨g1, g2⟩ := tx_run (w := w) h3 (fun y hy => hw y (List.mem_cons_of_mem _ hy)) hr
    rw [sp_end_S h1 (by rw [h2]; exact hw x List.mem_cons_self), g1, List.length_cons, show i + (w.length + 1) = i + 1 + w.length by omega]
    exact ⟨rfl, g2⟩
theorem tx_isS : sp_isS 32 = true := rfl
/-- a word -/
theorem tx_word {s w r : List Nat} {x : Nat} (h : tx_at T i (s ++ ((x :: w) ++ r))) (hs : ∀ y, y ∈ s → sp_isS y = true) (hw : ∀ y, y ∈ x :: w → sp_isL y = true) (hl : (x :: w).length ≤ 9) (hr : ∀ y r', r = y :: r' → sp_isL y = false) :
    sp_tok T i = (1, i + s.length, i + s.length + (x :: w).length, 0) ∧ tx_at T (i + s.length) ((x :: w) ++ r) ∧ tx_at T (i + s.length + (x :: w).length) r := by
  have hx := hw x List.mem_cons_self
  have hx2 : 97 ≤ x ∧ x ≤ 122 := of_decide_eq_true hx
  obtain ⟨g1, g2⟩ := tx_run h hs (fun y r' e => by
    have e2 := (List.cons.inj e).1
    rw [← e2]
    show (x == 32 || x == 10) = false
    simp
    omega)
  obtain ⟨k1, k2, k3⟩ := tx_at_c (show tx_at T (i + s.length) (x :: (w ++ r)) from g2)
  obtain ⟨j1, j2⟩ := tx_run g2 hw hr
  refine ⟨?_, g2, j2⟩
  unfold sp_tok sp_tokA
  rw [g1, if_neg (by omega), k2, if_pos hx, j1, show i + s.length + (x :: w).length - (i + s.length) = (x :: w).length by omega, if_pos hl]
/-- a number below 100 -/
theorem tx_num {s r : List Nat} {v : Nat} (hv : v < 100) (h : tx_at T i (s ++ (tx_D v ++ r))) (hs : ∀ y, y ∈ s → sp_isS y = true) (hr : ∀ y r', r = y :: r' → sp_isD y = false) :
    sp_tok T i = (2, i + s.length, i + s.length + (tx_D v).length, v) ∧ tx_at T (i + s.length + (tx_D v).length) r := by
  have hd : ∀ y, y ∈ tx_D v → 48 ≤ y ∧ y ≤ 57 := fun y hy => by
    unfold tx_D at hy
    split at hy
    · simp at hy
      omega
    · simp at hy
      omega
  have hD : ∀ y, y ∈ tx_D v → sp_isD y = true := fun y hy => decide_eq_true (hd y hy)
  have hlen := tx_D_len v
  obtain ⟨x, w, hxw⟩ : ∃ x w, tx_D v = x :: w := by
    unfold tx_D
    split <;> exact ⟨_, _, rfl⟩
  have hx := hd x (by rw [hxw]; exact List.mem_cons_self)
  obtain ⟨g1, g2⟩ := tx_run h hs (fun y r' e => by
    rw [hxw] at e
    have e2 := (List.cons.inj e).1
    rw [← e2]
    show (x == 32 || x == 10) = false
    simp
    omega)
  have g2' : tx_at T (i + s.length) (x :: (w ++ r)) := by
    rw [hxw] at g2
    exact g2
  obtain ⟨k1, k2, k3⟩ := tx_at_c g2'
  obtain ⟨j1, j2⟩ := tx_run g2 hD hr
  refine ⟨?_, j2⟩
  have hval : sp_dv T (i + s.length) (tx_D v).length = v := by
    have hat : ∀ j, j < (tx_D v).length → T.2 (i + s.length + j) = (tx_D v).getD j 0 := fun j hj => by
      rw [g2.2 j (by rw [List.length_append]; omega), List.getD_eq_getElem?_getD, List.getD_eq_getElem?_getD, List.getElem?_append_left hj]
    by_cases h10 : v < 10
    · have e : tx_D v = [v + 48] := if_pos h10
      rw [e] at hat ⊢
      have h0 := hat 0 (by simp)
      show 0 * 10 + (T.2 (i + s.length + 0) - 48) = v
      rw [h0]
      show 0 * 10 + (v + 48 - 48) = v
      omega
    · have e : tx_D v = [v / 10 + 48, v % 10 + 48] := if_neg h10
      rw [e] at hat ⊢
      have h0 := hat 0 (by simp)
      have h1 := hat 1 (by simp)
      show (0 * 10 + (T.2 (i + s.length + 0) - 48)) * 10 + (T.2 (i + s.length + 1) - 48) = v
      rw [h0, h1]
      show (0 * 10 + (v / 10 + 48 - 48)) * 10 + (v % 10 + 48 - 48) = v
      omega
  unfold sp_tok sp_tokA
  rw [g1, if_neg (by omega), k2, if_neg (show ¬ sp_isL x = true from fun z => by have := (of_decide_eq_true z : 97 ≤ x ∧ x ≤ 122); omega), if_pos (show sp_isD x = true from decide_eq_true hx), j1, show i + s.length + (tx_D v).length - (i + s.length) = (tx_D v).length by omega, if_pos (by omega), hval]
theorem tx_semi {r : List Nat} (h : tx_at T i (59 :: r)) : sp_tok T i = (3, i, i + 1, 0) ∧ tx_at T (i + 1) r := by
  obtain ⟨k1, k2, k3⟩ := tx_at_c h
  have g1 := tx_end0 (c := sp_isS) h (fun y r' e => by rw [← (List.cons.inj e).1]; rfl)
  refine ⟨?_, k3⟩
  unfold sp_tok sp_tokA
  rw [g1, if_neg (by omega), k2, if_neg (by decide), if_neg (by decide), if_pos rfl]
theorem tx_fin (h : tx_at T i []) : sp_tok T i = (0, i, i, 0) := by
  have g1 := tx_end0 (c := sp_isS) h (fun y r' e => by cases e)
  have h1 : T.1 = i + 0 := h.1
  unfold sp_tok sp_tokA
  rw [g1, if_pos (by omega)]
/-- a known word -/
theorem tx_isw {w k a : Nat} {L r : List Nat} (h : tx_at T a (L ++ r)) (hL : L.length = mm_sn w) (hc : ∀ j, j < mm_sn w → nI (L.getD j 0) = mm_sc w (nI j)) (hk : k = a + L.length) : sp_isw T (1, a, k, 0) w = true := by
  refine decide_eq_true ⟨rfl, ?_, fun j hj => ?_⟩
  · show k - a = _
    omega
  · show nI (T.2 (a + j)) = _
    rw [h.2 j (by rw [List.length_append]; omega), ← hc j hj, List.getD_eq_getElem?_getD, List.getD_eq_getElem?_getD, List.getElem?_append_left (by omega)]
def tx_w3 : List Nat := [119, 97, 114, 101, 104, 111, 117, 115, 101]
def tx_w4 : List Nat := [112, 114, 111, 100, 117, 99, 116]
def tx_w5 : List Nat := [98, 97, 116, 99, 104]
theorem tx_c3 : ∀ j, j < mm_sn 3 → nI (tx_w3.getD j 0) = mm_sc 3 (nI j) := by decide +kernel
theorem tx_c4 : ∀ j, j < mm_sn 4 → nI (tx_w4.getD j 0) = mm_sc 4 (nI j) := by decide +kernel
theorem tx_c5 : ∀ j, j < mm_sn 5 → nI (tx_w5.getD j 0) = mm_sc 5 (nI j) := by decide +kernel
end PPT2

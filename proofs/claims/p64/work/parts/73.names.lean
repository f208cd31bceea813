section PQS
/-! words and names -/
variable {T : sp_T} {h : mm_H} {t : sp_K} {C : sp_C} {A : sp_A}
def sp_isw (T : sp_T) (t : sp_K) (w : Nat) : Bool := decide (sk_k t = 1 ∧ sk_e t - sk_s t = mm_sn w ∧ ∀ j, j < mm_sn w → nI (T.2 (sk_s t + j)) = mm_sc w (nI j))
theorem sp_isw_eq {w w' : Nat} (h1 : mm_sn w = mm_sn w') (h2 : mm_sbyt.getD w [] = mm_sbyt.getD w' []) : sp_isw T t w = sp_isw T t w' := by
  unfold sp_isw mm_sc
  rw [h1, h2]
theorem tc_isWord {w : Nat} (H : sc_T T 1 h) (hl : T.1 ≤ 600) (ht : tc_tok t h) (hs : sk_s t ≤ sk_e t) (he : sk_e t ≤ T.1) (hk : sk_k t ≤ 4) : gX9_isWord w h = some (sp_isw T t w) := by
  unfold gX9_isWord
  rw [ht.1]
  by_cases h1 : sk_k t = 1
  · rw [h1, if_pos (show nI 1 = 1 from rfl)]
    unfold gX9_size
    rw [ht.2.1, ht.2.2.1, pk_sub hs, Option.bind_some]
    have hw : mm_sn w ≤ 135 := by
      have h9 : ∀ w, w < 17 → mm_sn w ≤ 135 := by decide
      rcases Nat.lt_or_ge w 17 with h8 | h8
      · exact h9 w h8
      · unfold mm_sn
        rw [List.getD_eq_getElem?_getD, List.getElem?_eq_none (by exact h8)]
        decide
    by_cases h2 : sk_e t - sk_s t = mm_sn w
    · rw [if_pos (show nI (sk_e t - sk_s t) = mm_sl w from congrArg nI h2)]
      have key : ∀ n i, i ≤ mm_sn w → mm_sn w - i < n → (∀ j, j < i → nI (T.2 (sk_s t + j)) = mm_sc w (nI j)) → gX9_isWord_L23 w h n (nI i) = some (sp_isw T t w) := by
        intro n
        induction n with
        | zero => intro i _ h9; omega
        | succ n ih =>
          intro i hi hn hall
          rw [gX9_isWord_L23]
          by_cases hlt : i < mm_sn w
          · rw [if_pos (show nI i < mm_sl w from nI_lt hlt (by omega)), ht.2.1, nI_add, tc_byte H hl (by omega), Option.bind_some, if_pos (po_ibd hlt (by omega))]
            by_cases he2 : nI (T.2 (sk_s t + i)) = mm_sc w (nI i)
            · rw [if_pos he2, nI_1, Option.bind_some]
              exact ih (i + 1) (by omega) (by omega) (fun j hj => by
                rcases Nat.lt_or_ge j i with h3 | h3
                · exact hall j h3
                · rw [show j = i by omega]
                  exact he2)
            · rw [if_neg he2]
              exact congrArg some (decide_eq_false (fun z => he2 (z.2.2 i hlt))).symm
          · rw [if_neg (show ¬ nI i < mm_sl w from nI_nlt (by omega) (by omega))]
            exact congrArg some (decide_eq_true ⟨h1, h2, fun j hj => hall j (by omega)⟩).symm
      exact key mm_F 0 (Nat.zero_le _) (Nat.lt_of_le_of_lt (Nat.sub_le _ _) (Nat.lt_of_le_of_lt hw (by decide))) (fun j hj => absurd hj (Nat.not_lt_zero _))
    · rw [if_neg (show ¬ nI (sk_e t - sk_s t) = mm_sl w from fun z => h2 ((nI_eq (by omega) (by omega)).mp z))]
      exact congrArg some (decide_eq_false (fun z => h2 z.2.1)).symm
  · rw [if_neg (show ¬ nI (sk_k t) = 1 from fun z => h1 ((nI_eq (b := 1) (by omega) (by decide)).mp z))]
    exact congrArg some (decide_eq_false (fun z => h1 z.1)).symm
/-! names -/
def sp_find (q : Nat → Bool) : Nat → Nat → Option Nat
  | 0, _ => none
  | m + 1, i => if q i = true then some i else sp_find q m (i + 1)
def sp_nameq (T : sp_T) (C : sp_C) (s n p : Nat) : Bool := decide (sp_nl C p = n ∧ ∀ j, j < n → sp_lt C p j = T.2 (s + j))
/-- the product whose name the text has at s, n letters long -/
def sp_named (T : sp_T) (C : sp_C) (s n : Nat) : Option Nat := sp_find (sp_nameq T C s n) (sp_np C) 0
def sp_fi : Option Nat → Int32
  | some p => nI p
  | none => -1
theorem sp_find_lt {q : Nat → Bool} : ∀ {m i p : Nat}, sp_find q m i = some p → p < i + m ∧ q p = true
  | 0, _, _, h => by cases h
  | m + 1, i, p, h => by
    have h' : (if q i = true then some i else sp_find q m (i + 1)) = some p := h
    by_cases hq : q i = true
    · rw [if_pos hq] at h'
      have := Option.some.inj h'
      subst this
      exact ⟨by omega, hq⟩
    · rw [if_neg hq] at h'
      have := sp_find_lt h'
      exact ⟨by omega, this.2⟩
theorem sp_named_lt {s n p : Nat} (h : sp_named T C s n = some p) : p < sp_np C := by
  have := (sp_find_lt h).1
  omega
theorem tc_letters {o s n p : Nat} (H : sc_T T 1 h) (hl : T.1 ≤ 600) (hbT : ∀ j, T.2 j < 256) (hC : sc_C C o h) (ok : sp_cok C) (hp : p < sp_np C) (c1 : mm_cap (o + 1) = 48) (c3 : mm_cap (o + 3) = 8) (hn : sp_nl C p = n) (hs : s + n ≤ T.1) : gX1_hasLetters o (nI p) 1 (nI s) h = some (sp_nameq T C s n p) := by
  have h8 := ok.1
  have h6 := (ok.2 p hp).1
  obtain ⟨d1, d2, d3⟩ := hC.2 p hp
  have key : ∀ m i, i ≤ n → n - i < m → (∀ j, j < i → sp_lt C p j = T.2 (s + j)) → gX1_hasLetters_L3 o 1 (nI p) (nI s) h m (nI i) = some (sp_nameq T C s n p) := by
    intro m
    induction m with
    | zero => intro i _ h9; omega
    | succ m ih =>
      intro i hi hm hall
      rw [gX1_hasLetters_L3, po_get (by rw [c3]; omega) (by rw [c3]; decide), d1, Option.bind_some, hn]
      by_cases hlt : i < n
      · have hb := (ok.2 p hp).2.2 i
        rw [if_pos (nI_lt hlt (by omega)), show nI p * 6 + nI i = nI (6 * p + i) by rw [show (6 : Int32) = nI 6 from rfl, pk_mul, nI_add, Nat.mul_comm], po_get (by rw [c1]; omega) (by rw [c1]; decide), d2 i (by omega), Option.bind_some, nI_add, tc_byte H hl (by omega), Option.bind_some]
        by_cases he : sp_lt C p i = T.2 (s + i)
        · rw [he, if_pos rfl, nI_1, Option.bind_some]
          exact ih (i + 1) (by omega) (by omega) (fun j hj => by
            rcases Nat.lt_or_ge j i with h3 | h3
            · exact hall j h3
            · rw [show j = i by omega]
              exact he)
        · have hne : ¬ nI (sp_lt C p i) = nI (T.2 (s + i)) := fun z => he ((nI_eq (by omega) (by have := hbT (s + i); omega)).mp z)
          rw [if_neg hne]
          exact congrArg some (decide_eq_false (fun z => he (z.2 i hlt))).symm
      · rw [if_neg (nI_nlt (by omega) (by omega))]
        exact congrArg some (decide_eq_true ⟨hn, fun j hj => hall j (by omega)⟩).symm
  exact key mm_F 0 (Nat.zero_le _) (Nat.lt_of_le_of_lt (Nat.sub_le _ _) (Nat.lt_of_le_of_lt (by omega : n ≤ 6) (by decide))) (fun j hj => absurd hj (Nat.not_lt_zero _))
theorem tc_named {o s n : Nat} (H : sc_T T 1 h) (hl : T.1 ≤ 600) (hbT : ∀ j, T.2 j < 256) (hC : sc_C C o h) (ok : sp_cok C) (c1 : mm_cap (o + 1) = 48) (c3 : mm_cap (o + 3) = 8) (hs : s + n ≤ T.1) : gX1_numberOf o 1 (nI s) (nI n) h = some (sp_fi (sp_named T C s n)) := by
  have h8 := ok.1
  have key : ∀ m i, i ≤ sp_np C → sp_np C - i < m → gX1_numberOf_L3 o 1 (nI s) (nI n) h m (nI i) = some (sp_fi (sp_find (sp_nameq T C s n) (sp_np C - i) i)) := by
    intro m
    induction m with
    | zero => intro i _ h9; omega
    | succ m ih =>
      intro i hi hm
      rw [gX1_numberOf_L3, hC.1]
      by_cases hlt : i < sp_np C
      · have h6 := (ok.2 i hlt).1
        rw [if_pos (nI_lt hlt (by omega)), po_get (by rw [c3]; omega) (by rw [c3]; decide), (hC.2 i hlt).1, Option.bind_some, show sp_np C - i = (sp_np C - (i + 1)) + 1 by omega]
        show _ = some (sp_fi (if sp_nameq T C s n i = true then some i else sp_find (sp_nameq T C s n) (sp_np C - (i + 1)) (i + 1)))
        refine po_jn (fun k1 g1 => ?_)
        have hk : k1 () = some (sp_fi (sp_find (sp_nameq T C s n) (sp_np C - (i + 1)) (i + 1))) := by
          rw [g1]
          dsimp only
          rw [nI_1, Option.bind_some]
          exact ih (i + 1) (by omega) (by omega)
        by_cases hn : sp_nl C i = n
        · rw [hn, if_pos rfl, tc_letters H hl hbT hC ok hlt c1 c3 hn hs, Option.bind_some]
          by_cases hq : sp_nameq T C s n i = true
          · rw [if_pos hq, if_pos hq]
            rfl
          · rw [if_neg hq, if_neg hq, hk]
        · rw [if_neg (show ¬ nI (sp_nl C i) = nI n from fun z => hn ((nI_eq (by omega) (by omega)).mp z)), if_neg (by rw [show sp_nameq T C s n i = false from decide_eq_false (fun z => hn z.1)]; decide), hk]
      · rw [if_neg (nI_nlt (by omega) (by omega)), show sp_np C - i = 0 by omega]
        rfl
  exact key mm_F 0 (Nat.zero_le _) (Nat.lt_of_le_of_lt (Nat.sub_le _ _) (Nat.lt_of_le_of_lt h8 (by decide)))
abbrev po_NS : String := "java/util/NoSuchElementException"
theorem po_c17' : mm_cap (14 + 3) = 8 := by decide +kernel
theorem po_c15' : mm_cap (14 + 1) = 48 := by decide +kernel
end PQS

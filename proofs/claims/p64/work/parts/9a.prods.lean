section PRL
/-! the class's own products (catalog 14) -/
variable {T : sp_T} {h : mm_H} {C : sp_C}
def po_d14 (z : Nat) : Bool := decide (14 ≤ z ∧ z < 21)
theorem tk_letter {s j : Nat} (hC : sc_C (sp_addC C T s j 0) 14 h) (ok : sp_cok C) (hp : sp_np C < 8) (hj : j < 6) : ∃ h', gX1_addLetter 14 (nI (T.2 (s + j))) h = some h' ∧ sc_C (sp_addC C T s (j + 1) 0) 14 h' ∧ po_fr po_d14 h h' := by
  obtain ⟨c1, c2⟩ := hC
  have en : mh_I h 14 0 = nI (sp_np C + 1) := c1
  obtain ⟨d1, d2, d3⟩ := c2 (sp_np C) (Nat.lt_succ_self _)
  have e1 : mh_I h (14 + 4) (sp_np C) = nI j := d1.trans (congrArg nI (if_pos rfl))
  unfold gX1_addLetter
  rw [en, nI_pred, Option.bind_some, po_get (by rw [po_c17']; exact hp) (by rw [po_c17']; decide), show 14 + 3 + 1 = 14 + 4 from rfl, e1, Option.bind_some, if_pos (show nI j < 6 from nI_lt hj (by decide)), show nI (sp_np C) * 6 + nI j = nI (6 * sp_np C + j) by rw [show (6 : Int32) = nI 6 from rfl, pk_mul, nI_add, Nat.mul_comm], po_put (by rw [po_c15']; omega) (by rw [po_c15']; decide), Option.bind_some, nI_1, po_put (by rw [po_c17']; exact hp) (by rw [po_c17']; decide), Option.bind_some]
  refine ⟨_, rfl, ⟨?_, fun p hp2 => ?_⟩, po_fr_trans (po_fr_I (by decide)) (po_fr_I (by decide))⟩
  · rw [po_I3 (by decide), po_I3 (by decide)]
    exact c1
  · have hp3 : p < sp_np C + 1 := hp2
    obtain ⟨g1, g2, g3⟩ := c2 p hp2
    by_cases hpe : p = sp_np C
    · subst hpe
      refine ⟨?_, fun i hi => ?_, ?_⟩
      · rw [show 14 + 3 + 1 = 14 + 4 from rfl, po_I1]
        exact congrArg nI (if_pos rfl).symm
      · have hi' : i < j + 1 := by
          have : i < (if sp_np C = sp_np C then j + 1 else sp_nl C (sp_np C)) := hi
          rw [if_pos rfl] at this
          exact this
        rw [po_I3 (by decide)]
        by_cases hij : i = j
        · subst hij
          rw [show 14 + 1 + 1 = 14 + 2 from rfl, po_I1]
          exact congrArg nI (if_pos rfl).symm
        · rw [show 14 + 1 + 1 = 14 + 2 from rfl, po_I4 (by omega)]
          have := g2 i (show i < (if sp_np C = sp_np C then j else sp_nl C (sp_np C)) by rw [if_pos rfl]; omega)
          exact this
      · rw [po_I3 (by decide), po_I3 (by decide)]
        exact g3
    · refine ⟨?_, fun i hi => ?_, ?_⟩
      · rw [show 14 + 3 + 1 = 14 + 4 from rfl, po_I4 hpe, po_I3 (by decide)]
        refine g1.trans (congrArg nI ?_)
        show (if p = sp_np C then j else sp_nl C p) = (if p = sp_np C then j + 1 else sp_nl C p)
        rw [if_neg hpe, if_neg hpe]
      · have hi2 : i < (if p = sp_np C then j + 1 else sp_nl C p) := hi
        rw [if_neg hpe] at hi2
        rw [po_I3 (by decide), show 14 + 1 + 1 = 14 + 2 from rfl]
        by_cases hcl : 6 * p + i = 6 * sp_np C + j
        · exfalso
          have := (ok.2 p (by omega)).1
          omega
        · rw [po_I4 hcl]
          exact g2 i (show i < (if p = sp_np C then j else sp_nl C p) by rw [if_neg hpe]; exact hi2)
      · rw [po_I3 (by decide), po_I3 (by decide)]
        exact g3
theorem tk_setMin {s n v : Nat} (hC : sc_C (sp_addC C T s n 0) 14 h) (hp : sp_np C < 8) : ∃ h', gX1_setMinimum 14 (nI v) h = some h' ∧ sc_C (sp_addC C T s n v) 14 h' ∧ po_fr po_d14 h h' := by
  have en : mh_I h 14 0 = nI (sp_np C + 1) := hC.1
  unfold gX1_setMinimum
  rw [en, nI_pred, po_put (by rw [po_c19']; exact hp) (by rw [po_c19']; decide), Option.bind_some]
  refine ⟨_, rfl, ⟨(po_I3 (by decide)).trans hC.1, fun p hp2 => ?_⟩, po_fr_I (by decide)⟩
  obtain ⟨g1, g2, g3⟩ := hC.2 p hp2
  refine ⟨(po_I3 (by decide)).trans g1, fun i hi => (po_I3 (by decide)).trans (g2 i hi), ?_⟩
  rw [show 14 + 5 + 1 = 14 + 6 from rfl]
  by_cases hpe : p = sp_np C
  · subst hpe
    rw [po_I1]
    exact congrArg nI (if_pos rfl).symm
  · rw [po_I4 hpe]
    refine g3.trans (congrArg nI ?_)
    show (if p = sp_np C then 0 else sp_mn C p) = (if p = sp_np C then v else sp_mn C p)
    rw [if_neg hpe, if_neg hpe]
theorem tk_nameless {s : Nat} (hC : sc_C C 14 h) (hp : sp_np C < 8) : ∃ h1, gX1_addNameless 14 h = some h1 ∧ sc_C (sp_addC C T s 0 0) 14 h1 ∧ po_fr po_d14 h h1 := by
  unfold gX1_addNameless
  rw [hC.1, if_pos (show nI (sp_np C) < 8 from nI_lt hp (by decide)), po_put (by rw [po_c17']; exact hp) (by rw [po_c17']; decide), Option.bind_some, po_I3 (by decide), hC.1, po_put (by rw [po_c19']; exact hp) (by rw [po_c19']; decide), Option.bind_some, po_I3 (by decide), po_I3 (by decide), hC.1, nI_1, Option.bind_some]
  refine ⟨_, rfl, ⟨po_I1, fun p hp2 => ?_⟩, po_fr_trans (po_fr_trans (po_fr_I (by decide)) (po_fr_I (by decide))) (po_fr_I (by decide))⟩
  have hp3 : p < sp_np C + 1 := hp2
  by_cases hpe : p = sp_np C
  · subst hpe
    refine ⟨?_, fun i hi => ?_, ?_⟩
    · rw [po_I3 (by decide), po_I3 (by decide), show 14 + 3 + 1 = 14 + 4 from rfl, po_I1]
      exact congrArg nI (if_pos rfl).symm
    · exfalso
      have : i < (if sp_np C = sp_np C then 0 else sp_nl C (sp_np C)) := hi
      rw [if_pos rfl] at this
      omega
    · rw [po_I3 (by decide), show 14 + 5 + 1 = 14 + 6 from rfl, po_I1]
      exact congrArg nI (if_pos rfl).symm
  · obtain ⟨g1, g2, g3⟩ := hC.2 p (by omega)
    refine ⟨?_, fun i hi => ?_, ?_⟩
    · rw [po_I3 (by decide), po_I3 (by decide), show 14 + 3 + 1 = 14 + 4 from rfl, po_I4 hpe]
      exact g1.trans (congrArg nI (if_neg hpe).symm)
    · have hi2 : i < (if p = sp_np C then 0 else sp_nl C p) := hi
      rw [if_neg hpe] at hi2
      rw [po_I3 (by decide), po_I3 (by decide), po_I3 (by decide)]
      exact (g2 i hi2).trans (congrArg nI (if_neg hpe).symm)
    · rw [po_I3 (by decide), show 14 + 5 + 1 = 14 + 6 from rfl, po_I4 hpe, po_I3 (by decide)]
      exact g3.trans (congrArg nI (if_neg hpe).symm)
theorem tk_prod {s n v p0 : Nat} (hC : sc_C C 14 h) (ok : sp_cok C) (hp : sp_np C < 8) (hn : n ≤ 6) (hs : mm_sn p0 = n) (hb : ∀ j, j < n → mm_sc p0 (nI j) = nI (T.2 (s + j))) :
    ∃ h', gX1_addProduct 14 p0 (nI v) h = some h' ∧ sc_C (sp_addC C T s n v) 14 h' ∧ po_fr po_d14 h h' := by
  unfold gX1_addProduct
  obtain ⟨h1, a1, a2, a3⟩ := tk_nameless (T := T) (s := s) hC hp
  rw [a1, Option.bind_some]
  have loop : ∀ m j h2, j ≤ n → n - j < m → sc_C (sp_addC C T s j 0) 14 h2 → po_fr po_d14 h h2 → ∃ h', gX1_addProduct_L6 14 p0 (nI v) m (nI j) h2 = some h' ∧ sc_C (sp_addC C T s n v) 14 h' ∧ po_fr po_d14 h h' := by
    intro m
    induction m with
    | zero => intro j h2 _ h9; omega
    | succ m ih =>
      intro j h2 hj hm hC2 hf
      rw [gX1_addProduct_L6, show mm_sl p0 = nI n from congrArg nI hs]
      by_cases hlt : j < n
      · obtain ⟨h3, b1, b2, b3⟩ := tk_letter hC2 ok hp (show j < 6 by omega)
        rw [if_pos (nI_lt hlt (by omega)), if_pos (by rw [hs]; exact po_ibd hlt (by omega)), hb j hlt, b1, Option.bind_some, nI_1, Option.bind_some]
        exact ih (j + 1) h3 (by omega) (by omega) b2 (po_fr_trans hf b3)
      · have hjn : j = n := by omega
        subst hjn
        obtain ⟨h3, b1, b2, b3⟩ := tk_setMin (v := v) hC2 hp
        rw [if_neg (nI_nlt (by omega) (by omega)), b1, Option.bind_some]
        exact ⟨h3, rfl, b2, po_fr_trans hf b3⟩
  exact loop mm_F 0 h1 (Nat.zero_le _) (Nat.lt_of_le_of_lt (Nat.le_trans (Nat.sub_le _ _) hn) (by decide)) a2 a3
end PRL

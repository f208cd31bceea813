section PQU
/-! a setup text: what it says -/
variable {T : sp_T} {h : mm_H} {t : sp_K} {C : sp_C} {S : sp_S} {A : sp_A}
def sp_addC (C : sp_C) (T : sp_T) (s n m : Nat) : sp_C := (sp_np C + 1, (fun p => if p = sp_np C then n else sp_nl C p), (fun p j => if p = sp_np C then T.2 (s + j) else sp_lt C p j), (fun p => if p = sp_np C then m else sp_mn C p))
theorem sp_addC_ok (ok : sp_cok C) {s n m : Nat} (hp : sp_np C < 8) (hn : n ≤ 6) (hm : m ≤ 999) (hb : ∀ j, T.2 j < 256) : sp_cok (sp_addC C T s n m) := by
  refine ⟨hp, fun p hp2 => ?_⟩
  have hp3 : p < sp_np C + 1 := hp2
  show (if p = sp_np C then n else sp_nl C p) ≤ 6 ∧ (if p = sp_np C then m else sp_mn C p) ≤ 999 ∧ ∀ j, (if p = sp_np C then T.2 (s + j) else sp_lt C p j) < 256
  by_cases hpe : p = sp_np C
  · rw [if_pos hpe, if_pos hpe]
    exact ⟨hn, hm, fun j => by rw [if_pos hpe]; exact hb _⟩
  · rw [if_neg hpe, if_neg hpe]
    obtain ⟨a, b, c⟩ := ok.2 p (by omega)
    exact ⟨a, b, fun j => by rw [if_neg hpe]; exact c j⟩
def sp_namerr (T : sp_T) (C : sp_C) (t : sp_K) : Option Nat := if sk_k t = 1 then (if sk_e t - sk_s t ≤ 6 ∧ (sp_nm T C t).isSome = false then none else some 3) else some 1
def sp_prod (T : sp_T) (C : sp_C) (t : sp_K) : (Nat × Nat) ⊕ (sp_C × sp_K) :=
  match sp_namerr T C t with
  | some c => .inl (c, sk_s t)
  | none => match sp_nerr (sp_nx T t) 0 999 with
    | some c => .inl (c, sk_s (sp_nx T t))
    | none => if sk_k (sp_nx T (sp_nx T t)) = 3 then .inr (sp_addC C T (sk_s t) (sk_e t - sk_s t) (sk_v (sp_nx T t)), sp_nx T (sp_nx T (sp_nx T t))) else .inl (1, sk_s (sp_nx T (sp_nx T t)))
def sp_knerr (T : sp_T) (C : sp_C) (t : sp_K) : Option Nat := if sk_k t = 1 then (if (sp_nm T C t).isSome = true then none else some 3) else some 1
def sp_bat (T : sp_T) (C : sp_C) (S : sp_S) (t : sp_K) : (Nat × Nat) ⊕ (sp_S × sp_K) :=
  match sp_knerr T C t with
  | some c => .inl (c, sk_s t)
  | none => match sp_nerr (sp_nx T t) 1 999 with
    | some c => .inl (c, sk_s (sp_nx T t))
    | none => match sp_nerr (sp_nx T (sp_nx T t)) 0 9999 with
      | some c => .inl (c, sk_s (sp_nx T (sp_nx T t)))
      | none => match sp_nerr (sp_nx T (sp_nx T (sp_nx T t))) 1 999 with
        | some c => .inl (c, sk_s (sp_nx T (sp_nx T (sp_nx T t))))
        | none => if sk_k (sp_nx T (sp_nx T (sp_nx T (sp_nx T t)))) = 3 then .inr (sp_add S ((sp_nm T C t).getD 0) (sk_v (sp_nx T t)) (sk_v (sp_nx T (sp_nx T t))) (sk_v (sp_nx T (sp_nx T (sp_nx T t)))), sp_nx T (sp_nx T (sp_nx T (sp_nx T (sp_nx T t))))) else .inl (1, sk_s (sp_nx T (sp_nx T (sp_nx T (sp_nx T t)))))
def sp_prods (T : sp_T) : Nat → sp_C → sp_K → (Nat × Nat) ⊕ (sp_C × sp_K)
  | 0, C, t => .inr (C, t)
  | m + 1, C, t => if sp_isw T t 4 = true then (if sp_np C < 8 then (match sp_prod T C (sp_nx T t) with | .inl e => .inl e | .inr y => sp_prods T m y.1 y.2) else .inl (4, sk_s t)) else .inr (C, t)
def sp_bats (T : sp_T) (C : sp_C) : Nat → sp_S → sp_K → (Nat × Nat) ⊕ sp_S
  | 0, S, _ => .inr S
  | m + 1, S, t => if sp_isw T t 5 = true then (if sp_nb S < 20 then (match sp_bat T C S (sp_nx T t) with | .inl e => .inl e | .inr y => sp_bats T C m y.1 y.2) else .inl (4, sk_s t)) else if sk_k t = 0 then .inr S else .inl (1, sk_s t)
def sp_C0 : sp_C := (0, (fun _ => 0), (fun _ _ => 0), (fun _ => 0))
def sp_S0 : sp_S := ((0, 0, 0), (fun _ _ => 0), (fun _ _ => 0), (fun _ _ => 0), (fun _ _ => 0))
def sp_setup2 (T : sp_T) (y : (Nat × Nat) ⊕ (sp_C × sp_K)) : (Nat × Nat) ⊕ (sp_C × sp_S) :=
  match y with
  | .inl e => .inl e
  | .inr y => match sp_bats T y.1 21 sp_S0 y.2 with
    | .inl e => .inl e
    | .inr S => .inr (y.1, S)
def sp_setup (T : sp_T) : (Nat × Nat) ⊕ (sp_C × sp_S) :=
  if sp_isw T (sp_tok T 0) 3 = true then
    (if sk_k (sp_nx T (sp_tok T 0)) = 3 then
      (if sp_isw T (sp_nx T (sp_nx T (sp_tok T 0))) 4 = true then sp_setup2 T (sp_prods T 9 sp_C0 (sp_nx T (sp_nx T (sp_tok T 0)))) else .inl (1, sk_s (sp_nx T (sp_nx T (sp_tok T 0)))))
    else .inl (1, sk_s (sp_nx T (sp_tok T 0))))
  else .inl (1, sk_s (sp_tok T 0))
theorem sp_C0_ok : sp_cok sp_C0 := ⟨Nat.zero_le _, fun p hp => absurd hp (Nat.not_lt_zero _)⟩
theorem sp_S0_ok : sp_ok sp_S0 := ⟨⟨Nat.zero_le _, Nat.zero_le _, Nat.zero_le _⟩, fun b hb => absurd hb (Nat.not_lt_zero _), fun r hr => absurd hr (Nat.not_lt_zero _)⟩
/-! the class -/
/-- parser, tokens and drafts -/
def po_pf (z : Nat) : Bool := decide (z = 5 ∨ z = 6 ∨ (52 ≤ z ∧ z < 90))
theorem po_pf_no {z : Nat} (h : ¬ (z = 5 ∨ z = 6 ∨ (52 ≤ z ∧ z < 90))) : po_pf z = false := decide_eq_false h
theorem po_pf6 {a b : mm_H} (h : po_fr po_6 a b) : po_fr po_pf a b := po_fr_mono h (fun z hz => by
  have hz' : ¬ (z = 5 ∨ z = 6 ∨ (52 ≤ z ∧ z < 90)) := of_decide_eq_false hz
  show (z == 6) = false
  simp
  omega)
theorem po_pf5 {a b : mm_H} (h : po_fr po_5 a b) : po_fr po_pf a b := po_fr_mono h (fun z hz => by
  have hz' : ¬ (z = 5 ∨ z = 6 ∨ (52 ≤ z ∧ z < 90)) := of_decide_eq_false hz
  show (z == 5) = false
  simp
  omega)
/-- where nothing is wrong -/
def po_ps (z : Nat) : Bool := decide (z = 6 ∨ (52 ≤ z ∧ z < 90))
theorem po_ps_pf {a b : mm_H} (h : po_fr po_ps a b) : po_fr po_pf a b := po_fr_mono h (fun z hz => by
  have hz' : ¬ (z = 5 ∨ z = 6 ∨ (52 ≤ z ∧ z < 90)) := of_decide_eq_false hz
  exact decide_eq_false (by omega))
theorem po_ps6 {a b : mm_H} (h : po_fr po_6 a b) : po_fr po_ps a b := po_fr_mono h (fun z hz => by
  have hz' : ¬ (z = 6 ∨ (52 ≤ z ∧ z < 90)) := of_decide_eq_false hz
  show (z == 6) = false
  simp
  omega)
def po_dc (z : Nat) : Bool := decide (52 ≤ z ∧ z < 59)
theorem po_psC {a b : mm_H} (h : po_fr po_dc a b) : po_fr po_ps a b := po_fr_mono h (fun z hz => by
  have hz' : ¬ (z = 6 ∨ (52 ≤ z ∧ z < 90)) := of_decide_eq_false hz
  exact decide_eq_false (by omega))
theorem po_psS {a b : mm_H} (h : po_fr (po_in 59) a b) : po_fr po_ps a b := po_fr_mono h (fun z hz => by
  have hz' : ¬ (z = 6 ∨ (52 ≤ z ∧ z < 90)) := of_decide_eq_false hz
  exact decide_eq_false (by omega))
/-- a product's parse -/
def po_pp (z : Nat) : Bool := decide (z = 6 ∨ (52 ≤ z ∧ z < 59))
theorem po_pp_ps {a b : mm_H} (h : po_fr po_pp a b) : po_fr po_ps a b := po_fr_mono h (fun z hz => by
  have hz' : ¬ (z = 6 ∨ (52 ≤ z ∧ z < 90)) := of_decide_eq_false hz
  exact decide_eq_false (by omega))
theorem po_pp_pf {a b : mm_H} (h : po_fr po_pp a b) : po_fr po_pf a b := po_ps_pf (po_pp_ps h)
theorem po_pp6 {a b : mm_H} (h : po_fr po_6 a b) : po_fr po_pp a b := po_fr_mono h (fun z hz => by
  have hz' : ¬ (z = 6 ∨ (52 ≤ z ∧ z < 59)) := of_decide_eq_false hz
  show (z == 6) = false
  simp
  omega)
theorem po_ppC {a b : mm_H} (h : po_fr po_dc a b) : po_fr po_pp a b := po_fr_mono h (fun z hz => by
  have hz' : ¬ (z = 6 ∨ (52 ≤ z ∧ z < 59)) := of_decide_eq_false hz
  exact decide_eq_false (by omega))
theorem po_c53 : mm_cap (52 + 1) = 48 := by decide +kernel
theorem po_c55 : mm_cap (52 + 3) = 8 := by decide +kernel
theorem po_c57 : mm_cap (52 + 5) = 8 := by decide +kernel
theorem po_k59 : mm_kd 59 = (0, 7) := by decide +kernel
theorem tc_letter {s j : Nat} (hC : sc_C (sp_addC C T s j 0) 52 h) (ok : sp_cok C) (hp : sp_np C < 8) (hj : j < 6) : ∃ h', gX1_addLetter 52 (nI (T.2 (s + j))) h = some h' ∧ sc_C (sp_addC C T s (j + 1) 0) 52 h' ∧ po_fr po_dc h h' := by
  obtain ⟨c1, c2⟩ := hC
  have en : mh_I h 52 0 = nI (sp_np C + 1) := c1
  obtain ⟨d1, d2, d3⟩ := c2 (sp_np C) (Nat.lt_succ_self _)
  have e1 : mh_I h (52 + 4) (sp_np C) = nI j := d1.trans (congrArg nI (if_pos rfl))
  unfold gX1_addLetter
  rw [en, nI_pred, Option.bind_some, po_get (by rw [po_c55]; exact hp) (by rw [po_c55]; decide), show 52 + 3 + 1 = 52 + 4 from rfl, e1, Option.bind_some, if_pos (show nI j < 6 from nI_lt hj (by decide)), show nI (sp_np C) * 6 + nI j = nI (6 * sp_np C + j) by rw [show (6 : Int32) = nI 6 from rfl, pk_mul, nI_add, Nat.mul_comm], po_put (by rw [po_c53]; omega) (by rw [po_c53]; decide), Option.bind_some, nI_1, po_put (by rw [po_c55]; exact hp) (by rw [po_c55]; decide), Option.bind_some]
  refine ⟨_, rfl, ⟨?_, fun p hp2 => ?_⟩, po_fr_trans (po_fr_I (by decide)) (po_fr_I (by decide))⟩
  · rw [po_I3 (by decide), po_I3 (by decide)]
    exact c1
  · have hp3 : p < sp_np C + 1 := hp2
    obtain ⟨g1, g2, g3⟩ := c2 p hp2
    by_cases hpe : p = sp_np C
    · subst hpe
      refine ⟨?_, fun i hi => ?_, ?_⟩
      · rw [show 52 + 3 + 1 = 52 + 4 from rfl, po_I1]
        exact congrArg nI (if_pos rfl).symm
      · have hi' : i < j + 1 := by
          have : i < (if sp_np C = sp_np C then j + 1 else sp_nl C (sp_np C)) := hi
          rw [if_pos rfl] at this
          exact this
        rw [po_I3 (by decide)]
        by_cases hij : i = j
        · subst hij
          rw [show 52 + 1 + 1 = 52 + 2 from rfl, po_I1]
          exact congrArg nI (if_pos rfl).symm
        · rw [show 52 + 1 + 1 = 52 + 2 from rfl, po_I4 (by omega)]
          have := g2 i (show i < (if sp_np C = sp_np C then j else sp_nl C (sp_np C)) by rw [if_pos rfl]; omega)
          exact this
      · rw [po_I3 (by decide), po_I3 (by decide)]
        exact g3
    · refine ⟨?_, fun i hi => ?_, ?_⟩
      · rw [show 52 + 3 + 1 = 52 + 4 from rfl, po_I4 hpe, po_I3 (by decide)]
        refine g1.trans (congrArg nI ?_)
        show (if p = sp_np C then j else sp_nl C p) = (if p = sp_np C then j + 1 else sp_nl C p)
        rw [if_neg hpe, if_neg hpe]
      · have hi2 : i < (if p = sp_np C then j + 1 else sp_nl C p) := hi
        rw [if_neg hpe] at hi2
        rw [po_I3 (by decide), show 52 + 1 + 1 = 52 + 2 from rfl]
        by_cases hcl : 6 * p + i = 6 * sp_np C + j
        · exfalso
          have := (ok.2 p (by omega)).1
          omega
        · rw [po_I4 hcl]
          exact g2 i (show i < (if p = sp_np C then j else sp_nl C p) by rw [if_neg hpe]; exact hi2)
      · rw [po_I3 (by decide), po_I3 (by decide)]
        exact g3
theorem tc_newName (H : tc_at T t h) (hC : sc_C C 52 h) (ok : sp_cok C) (hp : sp_np C < 8) :
    (sp_namerr T C t = none ∧ sk_e t - sk_s t ≤ 6 ∧ ∃ h', gX3_takeNewName 52 h = some (true, h') ∧ tc_at T (sp_nx T t) h' ∧ sc_C (sp_addC C T (sk_s t) (sk_e t - sk_s t) 0) 52 h' ∧ po_fr po_pp h h') ∨
    (∃ c, sp_namerr T C t = some c ∧ ∃ h', gX3_takeNewName 52 h = some (false, h') ∧ tc_err (c, sk_s t) h' ∧ po_fr po_pf h h') := by
  have hl := H.2.1.1
  have hv := H.2.2.1
  unfold gX3_takeNewName sp_namerr
  by_cases hk : sk_k t = 1
  · obtain ⟨he, e1, e2, e3⟩ := tc_fail (c := 3) (x := 3) H rfl
    have fin3 : ∀ P : Prop, (∃ c, some 3 = some c ∧ ∃ h', (gX3_fail 3 h).bind (fun (x9 : (Bool × mm_H)) => some (x9.1, x9.2)) = some (false, h') ∧ tc_err (c, sk_s t) h' ∧ po_fr po_pf h h') := fun _ => ⟨3, rfl, he, by rw [e1, Option.bind_some], e2, po_pf5 e3⟩
    have esz : gX9_size h = some (nI (sk_e t - sk_s t)) := by
      unfold gX9_size
      rw [H.1.2.2.1, H.1.2.2.2.1, pk_sub hv.1]
    rw [if_pos (show mh_I h 6 1 = 1 from (tc_k (n := 1) H (by decide)).mpr hk), if_pos hk, esz, Option.bind_some, H.1.2.2.1, tc_named H.1.1 H.2.1.1 H.2.1.2 hC ok po_c53 po_c55 (by omega), Option.bind_some, show sp_named T C (sk_s t) (sk_e t - sk_s t) = sp_nm T C t from rfl]
    cases hn : sp_nm T C t with
    | some p =>
      have hp' := sp_named_lt hn
      have h8 := ok.1
      rw [if_neg (show ¬ (sk_e t - sk_s t ≤ 6 ∧ (some p).isSome = false) from fun z => by cases z.2)]
      refine Or.inr ⟨3, rfl, he, ?_, e2, po_pf5 e3⟩
      refine po_jn (fun k1 g1 => ?_)
      rw [if_neg (show ¬ sp_fi (some p) = -1 from po_nm1 (by omega)), g1]
      dsimp only
      refine po_jn (fun k2 g2 => ?_)
      rw [if_neg (show ¬ (1 : Int32) = 0 by decide), g2]
      dsimp only
      rw [e1, Option.bind_some]
    | none =>
      by_cases h6 : sk_e t - sk_s t ≤ 6
      · rw [if_pos (show sk_e t - sk_s t ≤ 6 ∧ (none : Option Nat).isSome = false from ⟨h6, rfl⟩)]
        -- a nameless product
        have hadd : ∃ h1, gX1_addNameless 52 h = some h1 ∧ sc_C (sp_addC C T (sk_s t) 0 0) 52 h1 ∧ po_fr po_dc h h1 := by
          unfold gX1_addNameless
          rw [hC.1, if_pos (show nI (sp_np C) < 8 from nI_lt hp (by decide)), po_put (by rw [po_c55]; exact hp) (by rw [po_c55]; decide), Option.bind_some, po_I3 (by decide), hC.1, po_put (by rw [po_c57]; exact hp) (by rw [po_c57]; decide), Option.bind_some, po_I3 (by decide), po_I3 (by decide), hC.1, nI_1, Option.bind_some]
          refine ⟨_, rfl, ⟨po_I1, fun p hp2 => ?_⟩, po_fr_trans (po_fr_trans (po_fr_I (by decide)) (po_fr_I (by decide))) (po_fr_I (by decide))⟩
          have hp3 : p < sp_np C + 1 := hp2
          by_cases hpe : p = sp_np C
          · subst hpe
            refine ⟨?_, fun i hi => ?_, ?_⟩
            · rw [po_I3 (by decide), po_I3 (by decide), show 52 + 3 + 1 = 52 + 4 from rfl, po_I1]
              exact congrArg nI (if_pos rfl).symm
            · exfalso
              have : i < (if sp_np C = sp_np C then 0 else sp_nl C (sp_np C)) := hi
              rw [if_pos rfl] at this
              omega
            · rw [po_I3 (by decide), show 52 + 5 + 1 = 52 + 6 from rfl, po_I1]
              exact congrArg nI (if_pos rfl).symm
          · obtain ⟨g1, g2, g3⟩ := hC.2 p (by omega)
            refine ⟨?_, fun i hi => ?_, ?_⟩
            · rw [po_I3 (by decide), po_I3 (by decide), show 52 + 3 + 1 = 52 + 4 from rfl, po_I4 hpe]
              exact g1.trans (congrArg nI (if_neg hpe).symm)
            · have hi2 : i < (if p = sp_np C then 0 else sp_nl C p) := hi
              rw [if_neg hpe] at hi2
              rw [po_I3 (by decide), po_I3 (by decide), po_I3 (by decide)]
              exact (g2 i hi2).trans (congrArg nI (if_neg hpe).symm)
            · rw [po_I3 (by decide), show 52 + 5 + 1 = 52 + 6 from rfl, po_I4 hpe, po_I3 (by decide)]
              exact g3.trans (congrArg nI (if_neg hpe).symm)
        obtain ⟨h1, a1, a2, a3⟩ := hadd
        have H1 := tc_at_fr H a3 (by decide) (by decide) (by decide)
        have loop : ∀ n j h2, j ≤ sk_e t - sk_s t → sk_e t - sk_s t - j < n → tc_at T t h2 → sc_C (sp_addC C T (sk_s t) j 0) 52 h2 → po_fr po_pp h h2 → ∃ h', gX3_takeNewName_L86 52 n (nI (sk_s t + j)) h2 = some (true, h') ∧ tc_at T (sp_nx T t) h' ∧ sc_C (sp_addC C T (sk_s t) (sk_e t - sk_s t) 0) 52 h' ∧ po_fr po_pp h h' := by
          intro n
          induction n with
          | zero => intro j h2 _ h9; omega
          | succ n ih =>
            intro j h2 hj hn2 H2 hC2 hf
            rw [gX3_takeNewName_L86, H2.1.2.2.2.1]
            by_cases hlt : j < sk_e t - sk_s t
            · obtain ⟨h3, b1, b2, b3⟩ := tc_letter hC2 ok hp (show j < 6 by omega)
              rw [if_pos (nI_lt (by omega) (by omega)), tc_byte H2.1.1 hl (by omega), Option.bind_some, b1, Option.bind_some, nI_1, Option.bind_some]
              exact ih (j + 1) h3 (by omega) (by omega) (tc_at_fr H2 b3 (by decide) (by decide) (by decide)) b2 (po_fr_trans hf (po_ppC b3))
            · obtain ⟨h3, b1, b2, b3⟩ := tc_next H2
              rw [if_neg (nI_nlt (by omega) (by omega)), b1, Option.bind_some, show sk_e t - sk_s t = j by omega]
              exact ⟨h3, rfl, b2, sc_C_fr hC2 b3 (by decide) (by decide) (by decide) (by decide), po_fr_trans hf (po_pp6 b3)⟩
        obtain ⟨h', l1, l2, l3, l4⟩ := loop mm_F 0 h1 (Nat.zero_le _) (Nat.lt_of_le_of_lt (Nat.le_trans (Nat.sub_le _ _) h6) (by decide)) H1 a2 (po_ppC a3)
        refine Or.inl ⟨rfl, h6, h', ?_, l2, l3, l4⟩
        refine po_jn (fun k1 g1 => ?_)
        rw [if_pos (show sp_fi none = -1 from rfl), g1]
        dsimp only
        refine po_jn (fun k2 g2 => ?_)
        rw [if_pos rfl, Option.bind_some, if_neg (show ¬ 6 < nI (sk_e t - sk_s t) from nI_nlt (a := 6) h6 (by decide)), a1, Option.bind_some, H1.1.2.2.1, Option.bind_some]
        exact l1
      · rw [if_neg (show ¬ (sk_e t - sk_s t ≤ 6 ∧ (none : Option Nat).isSome = false) from fun z => h6 z.1)]
        refine Or.inr ⟨3, rfl, he, ?_, e2, po_pf5 e3⟩
        refine po_jn (fun k1 g1 => ?_)
        rw [if_pos (show sp_fi none = -1 from rfl), g1]
        dsimp only
        refine po_jn (fun k2 g2 => ?_)
        rw [if_pos rfl, Option.bind_some, if_pos (show 6 < nI (sk_e t - sk_s t) from nI_lt (a := 6) (by omega) (by omega)), g2]
        dsimp only
        rw [e1, Option.bind_some]
  · obtain ⟨h', e1, e2, e3⟩ := tc_fail (c := 1) (x := 1) H rfl
    rw [if_neg (show ¬ mh_I h 6 1 = 1 from fun z => hk ((tc_k (n := 1) H (by decide)).mp z)), if_neg hk, e1, Option.bind_some]
    exact Or.inr ⟨1, rfl, h', rfl, e2, po_pf5 e3⟩
theorem tc_setMin {s n v : Nat} (hC : sc_C (sp_addC C T s n 0) 52 h) (hp : sp_np C < 8) : ∃ h', gX1_setMinimum 52 (nI v) h = some h' ∧ sc_C (sp_addC C T s n v) 52 h' ∧ po_fr po_dc h h' := by
  have en : mh_I h 52 0 = nI (sp_np C + 1) := hC.1
  unfold gX1_setMinimum
  rw [en, nI_pred, po_put (by rw [po_c57]; exact hp) (by rw [po_c57]; decide), Option.bind_some]
  refine ⟨_, rfl, ⟨(po_I3 (by decide)).trans hC.1, fun p hp2 => ?_⟩, po_fr_I (by decide)⟩
  obtain ⟨g1, g2, g3⟩ := hC.2 p hp2
  refine ⟨(po_I3 (by decide)).trans g1, fun i hi => (po_I3 (by decide)).trans (g2 i hi), ?_⟩
  rw [show 52 + 5 + 1 = 52 + 6 from rfl]
  by_cases hpe : p = sp_np C
  · subst hpe
    rw [po_I1]
    exact congrArg nI (if_pos rfl).symm
  · rw [po_I4 hpe]
    refine g3.trans (congrArg nI ?_)
    show (if p = sp_np C then 0 else sp_mn C p) = (if p = sp_np C then v else sp_mn C p)
    rw [if_neg hpe, if_neg hpe]
theorem tc_word2 {w : Nat} (H : tc_at T t h) (hw : sp_isw T t w = true) : ∃ h', gX3_takeWord w h = some (true, h') ∧ tc_at T (sp_nx T t) h' ∧ po_fr po_6 h h' := by
  obtain ⟨h', e1, e2, e3⟩ := tc_next H
  unfold gX3_takeWord
  rw [tc_isw H, hw, Option.bind_some, if_pos rfl, e1, Option.bind_some]
  exact ⟨h', rfl, e2, e3⟩
/-- a product -/
theorem tc_prod (H : tc_at T t h) (hw : sp_isw T t 4 = true) (hC : sc_C C 52 h) (ok : sp_cok C) (hp : sp_np C < 8) :
    (∃ C' t', sp_prod T C (sp_nx T t) = .inr (C', t') ∧ sp_cok C' ∧ sp_np C' = sp_np C + 1 ∧ ∃ h', gX3_takeProduct 52 h = some (true, h') ∧ tc_at T t' h' ∧ sc_C C' 52 h' ∧ po_fr po_pp h h') ∨
    (∃ e, sp_prod T C (sp_nx T t) = .inl e ∧ ∃ h', gX3_takeProduct 52 h = some (false, h') ∧ tc_err e h' ∧ po_fr po_pf h h') := by
  obtain ⟨h1, e1, H1, f1⟩ := tc_word2 H hw
  have hC1 := sc_C_fr hC f1 (by decide) (by decide) (by decide) (by decide)
  unfold gX3_takeProduct sp_prod
  rw [e1, Option.bind_some, if_pos rfl]
  generalize sp_nx T t = t1 at H1
  rcases tc_newName H1 hC1 ok hp with ⟨a1, a2, h2, e2, H2, hC2, f2⟩ | ⟨c, a1, h2, e2, E2, f2⟩
  · rw [a1, e2, Option.bind_some, if_pos rfl]
    rcases tc_number (lo := 0) (hi := 999) (x := 0) (y := 999) H2 rfl rfl (by decide) (by decide) with ⟨b1, b2, h3, e3, H3, f3⟩ | ⟨c, b1, h3, e3, E3, f3⟩
    · have hC3 := sc_C_fr hC2 f3 (by decide) (by decide) (by decide) (by decide)
      obtain ⟨h4, e4, hC4, f4⟩ := tc_setMin (v := sk_v (sp_nx T t1)) hC3 hp
      have H4 := tc_at_fr H3 f4 (by decide) (by decide) (by decide)
      have f14 := po_fr_trans (po_pp6 f1) (po_fr_trans f2 (po_fr_trans (po_pp6 f3) (po_ppC f4)))
      rw [b1, e3, Option.bind_some, if_neg (show ¬ nI (sk_v (sp_nx T t1)) = -1 from po_nm1 (by omega)), e4, Option.bind_some]
      rcases tc_semi H4 with ⟨k1, h5, e5, H5, f5⟩ | ⟨k1, h5, e5, E5, f5⟩
      · rw [e5, Option.bind_some]
        dsimp only
        rw [if_pos k1]
        exact Or.inl ⟨_, _, rfl, sp_addC_ok ok hp a2 b2 H.2.1.2, rfl, h5, rfl, H5, sc_C_fr hC4 f5 (by decide) (by decide) (by decide) (by decide), po_fr_trans f14 (po_pp6 f5)⟩
      · rw [e5, Option.bind_some]
        dsimp only
        rw [if_neg k1]
        exact Or.inr ⟨_, rfl, h5, rfl, E5, po_fr_trans (po_pp_pf f14) (po_pf5 f5)⟩
    · rw [b1, e3, Option.bind_some, if_pos rfl]
      exact Or.inr ⟨_, rfl, h3, rfl, E3, po_fr_trans (po_pf6 f1) (po_fr_trans (po_pp_pf f2) (po_pf5 f3))⟩
  · rw [a1, e2, Option.bind_some, if_neg Bool.false_ne_true]
    exact Or.inr ⟨_, rfl, h2, rfl, E2, po_fr_trans (po_pf6 f1) f2⟩
/-- a batch -/
theorem tc_bat (H : tc_at T t h) (hw : sp_isw T t 5 = true) (hC : sc_C C 52 h) (okC : sp_cok C) (hS : sc_S S 59 h) (ok : sp_ok S) (hn : sp_nb S < 20) :
    (∃ S' t', sp_bat T C S (sp_nx T t) = .inr (S', t') ∧ sp_ok S' ∧ sp_nb S' = sp_nb S + 1 ∧ sp_dy S' = sp_dy S ∧ ∃ h', gX3_takeBatch 52 59 h = some (true, h') ∧ tc_at T t' h' ∧ sc_C C 52 h' ∧ sc_S S' 59 h' ∧ po_fr po_ps h h') ∨
    (∃ e, sp_bat T C S (sp_nx T t) = .inl e ∧ ∃ h', gX3_takeBatch 52 59 h = some (false, h') ∧ tc_err e h' ∧ po_fr po_pf h h') := by
  have hC' : ∀ {h' : mm_H} {D : Nat → Bool}, po_fr D h h' → (∀ z, 52 ≤ z → z < 59 → D z = false) → sc_C C 52 h' := fun hf hD => sc_C_fr hC hf (hD _ (by decide) (by decide)) (hD _ (by decide) (by decide)) (hD _ (by decide) (by decide)) (hD _ (by decide) (by decide))
  obtain ⟨h1, e1, H1, f1⟩ := tc_word2 H hw
  have d6 : ∀ z, 52 ≤ z → z < 90 → po_6 z = false := fun z h1 h2 => by
    show (z == 6) = false
    simp
    omega
  have in59 : ∀ q, po_in 59 q = true → po_6 q = false := fun q hq => by
    have hq' : 59 ≤ q ∧ q < 59 + 31 := of_decide_eq_true hq
    exact d6 q (by omega) (by omega)
  have hC1 := hC' f1 (fun z h1 h2 => d6 z h1 (by omega))
  have hS1 := sc_fr hS f1 in59
  unfold gX3_takeBatch sp_bat
  rw [e1, Option.bind_some, if_pos rfl]
  generalize sp_nx T t = t1 at H1
  rcases tc_known H1 hC1 okC po_c53 po_c55 with ⟨a1, p, a2, h2, e2, H2, f2⟩ | ⟨c, a1, h2, e2, E2, f2⟩
  · have hp := sp_named_lt a2
    have h8 := okC.1
    have ekn : sp_knerr T C t1 = none := by
      unfold sp_knerr
      rw [if_pos a1, a2]
      rfl
    rw [ekn, e2, Option.bind_some, if_neg (show ¬ nI p = -1 from po_nm1 (by omega))]
    rcases tc_number (lo := 1) (hi := 999) (x := 1) (y := 999) H2 rfl rfl (by decide) (by decide) with ⟨b1, b2, h3, e3, H3, f3⟩ | ⟨c, b1, h3, e3, E3, f3⟩
    · rw [b1, e3, Option.bind_some, if_neg (show ¬ nI (sk_v (sp_nx T t1)) = -1 from po_nm1 (by omega))]
      rcases tc_number (lo := 0) (hi := 9999) (x := 0) (y := 9999) H3 rfl rfl (by decide) (by decide) with ⟨c1, c2, h4, e4, H4, f4⟩ | ⟨c, c1, h4, e4, E4, f4⟩
      · rw [c1, e4, Option.bind_some, if_neg (show ¬ nI (sk_v (sp_nx T (sp_nx T t1))) = -1 from po_nm1 (by omega))]
        rcases tc_number (lo := 1) (hi := 999) (x := 1) (y := 999) H4 rfl rfl (by decide) (by decide) with ⟨d1, d2, h5, e5, H5, f5⟩ | ⟨c, d1, h5, e5, E5, f5⟩
        · have f15 := po_fr_trans f1 (po_fr_trans f2 (po_fr_trans f3 (po_fr_trans f4 f5)))
          have hS5 := sc_fr hS f15 in59
          obtain ⟨h6, e6, hS6, f6⟩ := pc_add po_k59 hS5 ok (p := p) (q := sk_v (sp_nx T t1)) (e := sk_v (sp_nx T (sp_nx T t1))) (c := sk_v (sp_nx T (sp_nx T (sp_nx T t1)))) hn (by omega)
          have H6 := tc_at_fr H5 f6 (po_in_no (by decide)) (po_in_no (by decide)) (po_in_no (by decide))
          have hC5 := hC' f15 (fun z h1 h2 => d6 z h1 (by omega))
          have hC6 := sc_C_fr hC5 f6 (po_in_no (by decide)) (po_in_no (by decide)) (po_in_no (by decide)) (po_in_no (by decide))
          have f16 := po_fr_trans (po_ps6 f15) (po_psS f6)
          rw [d1, e5, Option.bind_some, if_neg (show ¬ nI (sk_v (sp_nx T (sp_nx T (sp_nx T t1)))) = -1 from po_nm1 (by omega)), e6, Option.bind_some]
          rcases tc_semi H6 with ⟨k1, h7, e7, H7, f7⟩ | ⟨k1, h7, e7, E7, f7⟩
          · rw [e7, Option.bind_some]
            dsimp only
            rw [if_pos k1, a2]
            exact Or.inl ⟨_, _, rfl, sp_add_ok ok hn (show p < 8 by omega) b2 c2 d2, rfl, rfl, h7, rfl, H7, sc_C_fr hC6 f7 (by decide) (by decide) (by decide) (by decide), sc_fr hS6 f7 in59, po_fr_trans f16 (po_ps6 f7)⟩
          · rw [e7, Option.bind_some]
            dsimp only
            rw [if_neg k1]
            exact Or.inr ⟨_, rfl, h7, rfl, E7, po_fr_trans (po_ps_pf f16) (po_pf5 f7)⟩
        · rw [d1, e5, Option.bind_some, if_pos rfl]
          exact Or.inr ⟨_, rfl, h5, rfl, E5, po_fr_trans (po_pf6 (po_fr_trans f1 (po_fr_trans f2 (po_fr_trans f3 f4)))) (po_pf5 f5)⟩
      · rw [c1, e4, Option.bind_some, if_pos rfl]
        exact Or.inr ⟨_, rfl, h4, rfl, E4, po_fr_trans (po_pf6 (po_fr_trans f1 (po_fr_trans f2 f3))) (po_pf5 f4)⟩
    · rw [b1, e3, Option.bind_some, if_pos rfl]
      exact Or.inr ⟨_, rfl, h3, rfl, E3, po_fr_trans (po_pf6 (po_fr_trans f1 f2)) (po_pf5 f3)⟩
  · have ekn : sp_knerr T C t1 = some c := a1
    rw [ekn, e2, Option.bind_some, if_pos rfl]
    exact Or.inr ⟨_, rfl, h2, rfl, E2, po_fr_trans (po_pf6 f1) (po_pf5 f2)⟩
end PQU

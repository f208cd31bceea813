section PQV
variable {T : sp_T} {h : mm_H} {t : sp_K} {C : sp_C} {S : sp_S} {A : sp_A}
theorem sp_bats_S {m : Nat} : sp_bats T C (m + 1) S t = if sp_isw T t 7 = true then (if sp_nb S < 20 then (match sp_bat T C S (sp_nx T t) with | .inl e => .inl e | .inr y => sp_bats T C m y.1 y.2) else .inl (4, sk_s t)) else if sk_k t = 0 then .inr S else .inl (1, sk_s t) := rfl
theorem sp_prods_S {m : Nat} : sp_prods T (m + 1) C t = if sp_isw T t 6 = true then (if sp_np C < 8 then (match sp_prod T C (sp_nx T t) with | .inl e => .inl e | .inr y => sp_prods T m y.1 y.2) else .inl (4, sk_s t)) else .inr (C, t) := rfl
theorem tc_bats (okC : sp_cok C) : ∀ m n w S t h, tc_at T t h → sc_C C 52 h → sc_S S 59 h → sp_ok S → sp_nb S = w → w + m = 21 → w ≤ 20 → m < n →
    (∃ S', sp_bats T C m S t = .inr S' ∧ sp_ok S' ∧ sp_dy S' = sp_dy S ∧ ∃ h', gX3_parseSetup_L98 52 59 n (nI w) h = some (true, h') ∧ sc_C C 52 h' ∧ sc_S S' 59 h' ∧ po_fr po_ps h h') ∨
    (∃ e, sp_bats T C m S t = .inl e ∧ ∃ h', gX3_parseSetup_L98 52 59 n (nI w) h = some (false, h') ∧ tc_err e h' ∧ po_fr po_pf h h') := by
  intro m
  induction m with
  | zero => intro n w S t h _ _ _ _ _ h9 h10; omega
  | succ m ih =>
    intro n w S t h H hC hS ok hw hm hw2 hn
    obtain ⟨n, rfl⟩ : ∃ k, n = k + 1 := ⟨n - 1, by omega⟩
    rw [gX3_parseSetup_L98]
    rw [sp_bats_S]
    -- no batch here
    have stop : sp_isw T t 7 = false → (∀ P : Prop, True) → ((∃ S', (if sk_k t = 0 then (.inr S : (Nat × Nat) ⊕ sp_S) else .inl (1, sk_s t)) = .inr S' ∧ sp_ok S' ∧ sp_dy S' = sp_dy S ∧ ∃ h', (gX9_isWord 7 h).bind (fun (x25 : Bool) => if x25 = true then (gX3_fail 4 h).bind (fun (x32 : (Bool × mm_H)) => some (x32.1, x32.2)) else if (mh_I h 6 1) = 0 then some (true, h) else (gX3_fail 1 h).bind (fun (x29 : (Bool × mm_H)) => if x29.1 = true then some (true, x29.2) else some (false, x29.2))) = some (true, h') ∧ sc_C C 52 h' ∧ sc_S S' 59 h' ∧ po_fr po_ps h h') ∨
        (∃ e, (if sk_k t = 0 then (.inr S : (Nat × Nat) ⊕ sp_S) else .inl (1, sk_s t)) = .inl e ∧ ∃ h', (gX9_isWord 7 h).bind (fun (x25 : Bool) => if x25 = true then (gX3_fail 4 h).bind (fun (x32 : (Bool × mm_H)) => some (x32.1, x32.2)) else if (mh_I h 6 1) = 0 then some (true, h) else (gX3_fail 1 h).bind (fun (x29 : (Bool × mm_H)) => if x29.1 = true then some (true, x29.2) else some (false, x29.2))) = some (false, h') ∧ tc_err e h' ∧ po_fr po_pf h h')) := by
      intro hi _
      rw [tc_isw H, hi, Option.bind_some, if_neg Bool.false_ne_true]
      by_cases hk : sk_k t = 0
      · rw [if_pos (show mh_I h 6 1 = 0 from (tc_k (n := 0) H (by decide)).mpr hk), if_pos hk]
        exact Or.inl ⟨S, rfl, ok, rfl, h, rfl, hC, hS, po_fr_refl h⟩
      · obtain ⟨h', e1, e2, e3⟩ := tc_fail (c := 1) (x := 1) H rfl
        rw [if_neg (show ¬ mh_I h 6 1 = 0 from fun z => hk ((tc_k (n := 0) H (by decide)).mp z)), if_neg hk, e1, Option.bind_some, if_neg Bool.false_ne_true]
        exact Or.inr ⟨_, rfl, h', rfl, e2, po_pf5 e3⟩
    cases hi : sp_isw T t 7 with
    | false =>
      rw [if_neg Bool.false_ne_true]
      rcases stop hi (fun _ => trivial) with ⟨S', a1, a2, a3, h', b1, b2, b3, b4⟩ | ⟨e, a1, h', b1, b2, b3⟩
      · refine Or.inl ⟨S', a1, a2, a3, h', ?_, b2, b3, b4⟩
        refine po_jn (fun k1 g1 => ?_)
        by_cases h20 : w < 20
        · rw [if_pos (show nI w < 20 from nI_lt h20 (by decide)), tc_isw H, hi, Option.bind_some, if_neg Bool.false_ne_true, g1]
          exact b1
        · rw [if_neg (show ¬ nI w < 20 from nI_nlt (b := 20) (by omega) (by omega)), g1]
          exact b1
      · refine Or.inr ⟨e, a1, h', ?_, b2, b3⟩
        refine po_jn (fun k1 g1 => ?_)
        by_cases h20 : w < 20
        · rw [if_pos (show nI w < 20 from nI_lt h20 (by decide)), tc_isw H, hi, Option.bind_some, if_neg Bool.false_ne_true, g1]
          exact b1
        · rw [if_neg (show ¬ nI w < 20 from nI_nlt (b := 20) (by omega) (by omega)), g1]
          exact b1
    | true =>
      rw [if_pos rfl]
      by_cases h20 : w < 20
      · rw [if_pos (show sp_nb S < 20 by omega)]
        rcases tc_bat H hi hC okC hS ok (by omega) with ⟨S', t', a1, a2, a3, a4, h1, b1, b2, b3, b4, b5⟩ | ⟨e, a1, h1, b1, b2, b3⟩
        · rw [a1]
          have henter : ∀ r, gX3_parseSetup_L98 52 59 n (nI (w + 1)) h1 = r → mm_jn (fun (_ : Unit) => (gX9_isWord 7 h).bind (fun (x25 : Bool) => if x25 = true then (gX3_fail 4 h).bind (fun (x32 : (Bool × mm_H)) => some (x32.1, x32.2)) else if (mh_I h 6 1) = 0 then some (true, h) else (gX3_fail 1 h).bind (fun (x29 : (Bool × mm_H)) => if x29.1 = true then some (true, x29.2) else some (false, x29.2)))) (fun (j24 : Unit → Option (Bool × mm_H)) => if nI w < 20 then (gX9_isWord 7 h).bind (fun (x35 : Bool) => if x35 = true then (gX3_takeBatch 52 59 h).bind (fun (x38 : (Bool × mm_H)) => if x38.1 = true then (some (nI w + 1)).bind (fun (x41 : Int32) => gX3_parseSetup_L98 52 59 n x41 x38.2) else some (false, x38.2)) else j24 ()) else j24 ()) = r := fun r hr => by
            refine po_jn (fun k1 g1 => ?_)
            rw [if_pos (show nI w < 20 from nI_lt h20 (by decide)), tc_isw H, hi, Option.bind_some, if_pos rfl, b1, Option.bind_some, if_pos rfl, nI_1, Option.bind_some]
            exact hr
          rcases ih n (w + 1) S' t' h1 b2 b3 b4 a2 (by omega) (by omega) (by omega) (by omega) with ⟨S2, c1, c2, c3, h2, d1, d2, d3, d4⟩ | ⟨e, c1, h2, d1, d2, d3⟩
          · exact Or.inl ⟨S2, c1, c2, c3.trans a4, h2, henter _ d1, d2, d3, po_fr_trans b5 d4⟩
          · exact Or.inr ⟨e, c1, h2, henter _ d1, d2, po_fr_trans (po_ps_pf b5) d3⟩
        · rw [a1]
          refine Or.inr ⟨e, rfl, h1, ?_, b2, b3⟩
          refine po_jn (fun k1 g1 => ?_)
          rw [if_pos (show nI w < 20 from nI_lt h20 (by decide)), tc_isw H, hi, Option.bind_some, if_pos rfl, b1, Option.bind_some, if_neg Bool.false_ne_true]
      · rw [if_neg (show ¬ sp_nb S < 20 by omega)]
        obtain ⟨h', e1, e2, e3⟩ := tc_fail (c := 4) (x := 4) H rfl
        refine Or.inr ⟨_, rfl, h', ?_, e2, po_pf5 e3⟩
        refine po_jn (fun k1 g1 => ?_)
        rw [if_neg (show ¬ nI w < 20 from nI_nlt (b := 20) (by omega) (by omega)), g1]
        dsimp only
        rw [tc_isw H, hi, Option.bind_some, if_pos rfl, e1, Option.bind_some]
end PQV

section PQV
variable {T : sp_T} {h : mm_H} {t : sp_K} {C : sp_C} {S : sp_S} {A : sp_A}
theorem sp_bats_S {m : Nat} : sp_bats T C (m + 1) S t = if sp_isw T t 5 = true then (if sp_nb S < 20 then (match sp_bat T C S (sp_nx T t) with | .inl e => .inl e | .inr y => sp_bats T C m y.1 y.2) else .inl (4, sk_s t)) else if sk_k t = 0 then .inr S else .inl (1, sk_s t) := rfl
theorem sp_prods_S {m : Nat} : sp_prods T (m + 1) C t = if sp_isw T t 4 = true then (if sp_np C < 8 then (match sp_prod T C (sp_nx T t) with | .inl e => .inl e | .inr y => sp_prods T m y.1 y.2) else .inl (4, sk_s t)) else .inr (C, t) := rfl
theorem tc_bats (okC : sp_cok C) : ∀ m n w S t h, tc_at T t h → sc_C C 52 h → sc_S S 59 h → sp_ok S → sp_nb S = w → w + m = 21 → w ≤ 20 → m < n →
    (∃ S', sp_bats T C m S t = .inr S' ∧ sp_ok S' ∧ sp_dy S' = sp_dy S ∧ ∃ h', gX3_parseSetup_L98 52 59 n (nI w) h = some (true, h') ∧ sc_C C 52 h' ∧ sc_S S' 59 h' ∧ po_fr po_ps h h') ∨
    (∃ e, sp_bats T C m S t = .inl e ∧ ∃ h', gX3_parseSetup_L98 52 59 n (nI w) h = some (false, h') ∧ tc_err e h' ∧ po_fr po_pf h h') := by
  intro m
  induction m with
  | zero => intro n w S t h _ _ _ _ _ h9 h10; omega
  | succ m ih =>
    intro n w S t h H hC hS ok hw hm hw2 hn
    obtain ⟨n, rfl⟩ : ∃ k, n = k + 1 := ⟨n - 1, by omega⟩
    rw [gX3_parseSetup_L98]
    rw [sp_bats_S]
    -- no batch here
    have stop : sp_isw T t 5 = false → (∀ P : Prop, True) → ((∃ S', (if sk_k t = 0 then (.inr S : (Nat × Nat) ⊕ sp_S) else .inl (1, sk_s t)) = .inr S' ∧ sp_ok S' ∧ sp_dy S' = sp_dy S ∧ ∃ h', (gX9_isWord 5 h).bind (fun (x25 : Bool) => if x25 = true then (gX3_fail 4 h).bind (fun (x32 : (Bool × mm_H)) => some (x32.1, x32.2)) else if (mh_I h 6 1) = 0 then some (true, h) else (gX3_fail 1 h).bind (fun (x29 : (Bool × mm_H)) => if x29.1 = true then some (true, x29.2) else some (false, x29.2))) = some (true, h') ∧ sc_C C 52 h' ∧ sc_S S' 59 h' ∧ po_fr po_ps h h') ∨
        (∃ e, (if sk_k t = 0 then (.inr S : (Nat × Nat) ⊕ sp_S) else .inl (1, sk_s t)) = .inl e ∧ ∃ h', (gX9_isWord 5 h).bind (fun (x25 : Bool) => if x25 = true then (gX3_fail 4 h).bind (fun (x32 : (Bool × mm_H)) => some (x32.1, x32.2)) else if (mh_I h 6 1) = 0 then some (true, h) else (gX3_fail 1 h).bind (fun (x29 : (Bool × mm_H)) => if x29.1 = true then some (true, x29.2) else some (false, x29.2))) = some (false, h') ∧ tc_err e h' ∧ po_fr po_pf h h')) := by
      intro hi _
      rw [tc_isw H, hi, Option.bind_some, if_neg Bool.false_ne_true]
      by_cases hk : sk_k t = 0
      · rw [if_pos (show mh_I h 6 1 = 0 from (tc_k (n := 0) H (by decide)).mpr hk), if_pos hk]
        exact Or.inl ⟨S, rfl, ok, rfl, h, rfl, hC, hS, po_fr_refl h⟩
      · obtain ⟨h', e1, e2, e3⟩ := tc_fail (c := 1) (x := 1) H rfl
        rw [if_neg (show ¬ mh_I h 6 1 = 0 from fun z => hk ((tc_k (n := 0) H (by decide)).mp z)), if_neg hk, e1, Option.bind_some, if_neg Bool.false_ne_true]
        exact Or.inr ⟨_, rfl, h', rfl, e2, po_pf5 e3⟩
    cases hi : sp_isw T t 5 with
    | false =>
      rw [if_neg Bool.false_ne_true]
      rcases stop hi (fun _ => trivial) with ⟨S', a1, a2, a3, h', b1, b2, b3, b4⟩ | ⟨e, a1, h', b1, b2, b3⟩
      · refine Or.inl ⟨S', a1, a2, a3, h', ?_, b2, b3, b4⟩
        refine po_jn (fun k1 g1 => ?_)
        by_cases h20 : w < 20
        · rw [if_pos (show nI w < 20 from nI_lt h20 (by decide)), tc_isw H, hi, Option.bind_some, if_neg Bool.false_ne_true, g1]
          exact b1
        · rw [if_neg (show ¬ nI w < 20 from nI_nlt (b := 20) (by omega) (by omega)), g1]
          exact b1
      · refine Or.inr ⟨e, a1, h', ?_, b2, b3⟩
        refine po_jn (fun k1 g1 => ?_)
        by_cases h20 : w < 20
        · rw [if_pos (show nI w < 20 from nI_lt h20 (by decide)), tc_isw H, hi, Option.bind_some, if_neg Bool.false_ne_true, g1]
          exact b1
        · rw [if_neg (show ¬ nI w < 20 from nI_nlt (b := 20) (by omega) (by omega)), g1]
          exact b1
    | true =>
      rw [if_pos rfl]
      by_cases h20 : w < 20
      · rw [if_pos (show sp_nb S < 20 by omega)]
        rcases tc_bat H hi hC okC hS ok (by omega) with ⟨S', t', a1, a2, a3, a4, h1, b1, b2, b3, b4, b5⟩ | ⟨e, a1, h1, b1, b2, b3⟩
        · rw [a1]
          have henter : ∀ r, gX3_parseSetup_L98 52 59 n (nI (w + 1)) h1 = r → mm_jn (fun (_ : Unit) => (gX9_isWord 5 h).bind (fun (x25 : Bool) => if x25 = true then (gX3_fail 4 h).bind (fun (x32 : (Bool × mm_H)) => some (x32.1, x32.2)) else if (mh_I h 6 1) = 0 then some (true, h) else (gX3_fail 1 h).bind (fun (x29 : (Bool × mm_H)) => if x29.1 = true then some (true, x29.2) else some (false, x29.2)))) (fun (j24 : Unit → Option (Bool × mm_H)) => if nI w < 20 then (gX9_isWord 5 h).bind (fun (x35 : Bool) => if x35 = true then (gX3_takeBatch 52 59 h).bind (fun (x38 : (Bool × mm_H)) => if x38.1 = true then (some (nI w + 1)).bind (fun (x41 : Int32) => gX3_parseSetup_L98 52 59 n x41 x38.2) else some (false, x38.2)) else j24 ()) else j24 ()) = r := fun r hr => by
            refine po_jn (fun k1 g1 => ?_)
            rw [if_pos (show nI w < 20 from nI_lt h20 (by decide)), tc_isw H, hi, Option.bind_some, if_pos rfl, b1, Option.bind_some, if_pos rfl, nI_1, Option.bind_some]
            exact hr
          rcases ih n (w + 1) S' t' h1 b2 b3 b4 a2 (by omega) (by omega) (by omega) (by omega) with ⟨S2, c1, c2, c3, h2, d1, d2, d3, d4⟩ | ⟨e, c1, h2, d1, d2, d3⟩
          · exact Or.inl ⟨S2, c1, c2, c3.trans a4, h2, henter _ d1, d2, d3, po_fr_trans b5 d4⟩
          · exact Or.inr ⟨e, c1, h2, henter _ d1, d2, po_fr_trans (po_ps_pf b5) d3⟩
        · rw [a1]
          refine Or.inr ⟨e, rfl, h1, ?_, b2, b3⟩
          refine po_jn (fun k1 g1 => ?_)
          rw [if_pos (show nI w < 20 from nI_lt h20 (by decide)), tc_isw H, hi, Option.bind_some, if_pos rfl, b1, Option.bind_some, if_neg Bool.false_ne_true]
      · rw [if_neg (show ¬ sp_nb S < 20 by omega)]
        obtain ⟨h', e1, e2, e3⟩ := tc_fail (c := 4) (x := 4) H rfl
        refine Or.inr ⟨_, rfl, h', ?_, e2, po_pf5 e3⟩
        refine po_jn (fun k1 g1 => ?_)
        rw [if_neg (show ¬ nI w < 20 from nI_nlt (b := 20) (by omega) (by omega)), g1]
        dsimp only
        rw [tc_isw H, hi, Option.bind_some, if_pos rfl, e1, Option.bind_some]
/-- products, then batches -/
theorem tc_prods : ∀ m n w C t h, tc_at T t h → sc_C C 52 h → sc_S sp_S0 59 h → sp_cok C → sp_np C = w → w + m = 9 → w ≤ 8 → m < n →
    (∃ C' S', sp_setup2 T (sp_prods T m C t) = .inr (C', S') ∧ sp_cok C' ∧ sp_ok S' ∧ sp_dy S' = 0 ∧ ∃ h', gX3_parseSetup_L42 52 59 n (nI w) h = some (true, h') ∧ sc_C C' 52 h' ∧ sc_S S' 59 h' ∧ po_fr po_ps h h') ∨
    (∃ e, sp_setup2 T (sp_prods T m C t) = .inl e ∧ ∃ h', gX3_parseSetup_L42 52 59 n (nI w) h = some (false, h') ∧ tc_err e h' ∧ po_fr po_pf h h') := by
  intro m
  induction m with
  | zero => intro n w C t h _ _ _ _ _ h9 h10; omega
  | succ m ih =>
    intro n w C t h H hC hS ok hw hm hw2 hn
    obtain ⟨n, rfl⟩ : ∃ k, n = k + 1 := ⟨n - 1, by omega⟩
    rw [gX3_parseSetup_L42, sp_prods_S]
    cases hi : sp_isw T t 4 with
    | false =>
      rw [if_neg Bool.false_ne_true]
      have hgo : ∀ r, gX3_parseSetup_L98 52 59 mm_F 0 h = r → mm_jn (fun (_ : Unit) => (gX9_isWord 4 h).bind (fun (x19 : Bool) => if x19 = true then (gX3_fail 4 h).bind (fun (x42 : (Bool × mm_H)) => some (x42.1, x42.2)) else gX3_parseSetup_L98 52 59 mm_F 0 h)) (fun (j18 : Unit → Option (Bool × mm_H)) => if nI w < 8 then (gX9_isWord 4 h).bind (fun (x45 : Bool) => if x45 = true then (gX3_takeProduct 52 h).bind (fun (x48 : (Bool × mm_H)) => if x48.1 = true then (some (nI w + 1)).bind (fun (x51 : Int32) => gX3_parseSetup_L42 52 59 n x51 x48.2) else some (false, x48.2)) else j18 ()) else j18 ()) = r := fun r hr => by
        refine po_jn (fun k1 g1 => ?_)
        have hk : k1 () = r := by
          rw [g1]
          dsimp only
          rw [tc_isw H, hi, Option.bind_some, if_neg Bool.false_ne_true]
          exact hr
        by_cases h8 : w < 8
        · rw [if_pos (show nI w < 8 from nI_lt h8 (by decide)), tc_isw H, hi, Option.bind_some, if_neg Bool.false_ne_true]
          exact hk
        · rw [if_neg (show ¬ nI w < 8 from nI_nlt (b := 8) (by omega) (by omega))]
          exact hk
      rcases tc_bats ok 21 mm_F 0 sp_S0 t h H hC hS sp_S0_ok rfl rfl (by decide) (by decide) with ⟨S', a1, a2, a3, h', b1, b2, b3, b4⟩ | ⟨e, a1, h', b1, b2, b3⟩
      · refine Or.inl ⟨C, S', ?_, ok, a2, a3, h', hgo _ b1, b2, b3, b4⟩
        show (match sp_bats T C 21 sp_S0 t with | .inl e => .inl e | .inr S => .inr (C, S) : (Nat × Nat) ⊕ (sp_C × sp_S)) = _
        rw [a1]
      · refine Or.inr ⟨e, ?_, h', hgo _ b1, b2, b3⟩
        show (match sp_bats T C 21 sp_S0 t with | .inl e => .inl e | .inr S => .inr (C, S) : (Nat × Nat) ⊕ (sp_C × sp_S)) = _
        rw [a1]
    | true =>
      rw [if_pos rfl]
      by_cases h8 : w < 8
      · rw [if_pos (show sp_np C < 8 by omega)]
        rcases tc_prod H hi hC ok (by omega) with ⟨C', t', a1, a2, a3, h1, b1, b2, b3, b5⟩ | ⟨e, a1, h1, b1, b2, b3⟩
        · rw [a1]
          have henter : ∀ r, gX3_parseSetup_L42 52 59 n (nI (w + 1)) h1 = r → mm_jn (fun (_ : Unit) => (gX9_isWord 4 h).bind (fun (x19 : Bool) => if x19 = true then (gX3_fail 4 h).bind (fun (x42 : (Bool × mm_H)) => some (x42.1, x42.2)) else gX3_parseSetup_L98 52 59 mm_F 0 h)) (fun (j18 : Unit → Option (Bool × mm_H)) => if nI w < 8 then (gX9_isWord 4 h).bind (fun (x45 : Bool) => if x45 = true then (gX3_takeProduct 52 h).bind (fun (x48 : (Bool × mm_H)) => if x48.1 = true then (some (nI w + 1)).bind (fun (x51 : Int32) => gX3_parseSetup_L42 52 59 n x51 x48.2) else some (false, x48.2)) else j18 ()) else j18 ()) = r := fun r hr => by
            refine po_jn (fun k1 g1 => ?_)
            rw [if_pos (show nI w < 8 from nI_lt h8 (by decide)), tc_isw H, hi, Option.bind_some, if_pos rfl, b1, Option.bind_some, if_pos rfl, nI_1, Option.bind_some]
            exact hr
          have hS1 : sc_S sp_S0 59 h1 := sc_fr hS b5 (fun q hq => by
            have hq' : 59 ≤ q ∧ q < 59 + 31 := of_decide_eq_true hq
            exact decide_eq_false (by omega))
          rcases ih n (w + 1) C' t' h1 b2 b3 hS1 a2 (by omega) (by omega) (by omega) (by omega) with ⟨C2, S2, c1, c2, c3, c4, h2, d1, d2, d3, d4⟩ | ⟨e, c1, h2, d1, d2, d3⟩
          · exact Or.inl ⟨C2, S2, c1, c2, c3, c4, h2, henter _ d1, d2, d3, po_fr_trans (po_pp_ps b5) d4⟩
          · exact Or.inr ⟨e, c1, h2, henter _ d1, d2, po_fr_trans (po_pp_pf b5) d3⟩
        · rw [a1]
          refine Or.inr ⟨e, rfl, h1, ?_, b2, b3⟩
          refine po_jn (fun k1 g1 => ?_)
          rw [if_pos (show nI w < 8 from nI_lt h8 (by decide)), tc_isw H, hi, Option.bind_some, if_pos rfl, b1, Option.bind_some, if_neg Bool.false_ne_true]
      · rw [if_neg (show ¬ sp_np C < 8 by omega)]
        obtain ⟨h', e1, e2, e3⟩ := tc_fail (c := 4) (x := 4) H rfl
        refine Or.inr ⟨_, rfl, h', ?_, e2, po_pf5 e3⟩
        refine po_jn (fun k1 g1 => ?_)
        rw [if_neg (show ¬ nI w < 8 from nI_nlt (b := 8) (by omega) (by omega)), g1]
        dsimp only
        rw [tc_isw H, hi, Option.bind_some, if_pos rfl, e1, Option.bind_some]
/-! the whole text -/
def po_fw (C : Nat → Bool) (h h' : mm_H) : Prop := (∀ o, C o = false → ∀ k, mh_I h' o k = mh_I h o k) ∧ h'.1 = h.1 ∧ mh_J h' = mh_J h ∧ mh_D h' = mh_D h
theorem po_fw_of {D : Nat → Bool} {a b : mm_H} (h : po_fr D a b) : po_fw D a b := ⟨h.1, h.2.1, h.2.2.2⟩
theorem po_fw_trans {D : Nat → Bool} {a b c : mm_H} (h1 : po_fw D a b) (h2 : po_fw D b c) : po_fw D a c := ⟨fun o ho k => (h2.1 o ho k).trans (h1.1 o ho k), h2.2.1.trans h1.2.1, h2.2.2.1.trans h1.2.2.1, h2.2.2.2.trans h1.2.2.2⟩
theorem po_fw_R {D : Nat → Bool} {h : mm_H} {o k : Nat} {v : Option Nat} : po_fw D h (ms_R h o k v) := ⟨fun _ _ _ => rfl, rfl, rfl, rfl⟩
theorem po_fw_mono {C D : Nat → Bool} {a b : mm_H} (h1 : po_fw C a b) (hd : ∀ o, D o = false → C o = false) : po_fw D a b := ⟨fun o ho k => h1.1 o (hd o ho) k, h1.2⟩
theorem po_zero {o c : Nat} {h : mm_H} (hc : mm_cap o = c) (h6 : c < 60000) : ∃ h', gX4_zero o h = some h' ∧ (∀ j, j < c → mh_I h' (o + 1) j = 0) ∧ po_fr (fun z => z == o + 1) h h' := by
  unfold gX4_zero
  refine po_loop (fun n i s => gX4_zero_L2 o n (nI i) s) c (fun k s => (∀ j, j < k → mh_I s (o + 1) j = 0) ∧ po_fr (fun z => z == o + 1) h s) (fun h' => (∀ j, j < c → mh_I h' (o + 1) j = 0) ∧ po_fr (fun z => z == o + 1) h h') ?_ ?_ mm_F 0 h (Nat.zero_le _) (show c - 0 < 100000 by omega) ⟨fun j hj => absurd hj (Nat.not_lt_zero _), po_fr_refl _⟩
  · intro n s hs
    refine ⟨s, ?_, hs⟩
    show gX4_zero_L2 o (n + 1) (nI c) s = _
    rw [gX4_zero_L2, hc, if_neg (nI_nlt (Nat.le_refl _) (by omega))]
  · intro n k s hk hs
    refine ⟨ms_I s (o + 1) k 0, ⟨fun j hj => ?_, po_fr_trans hs.2 (po_fr_I (by simp))⟩, ?_⟩
    · by_cases hjk : j = k
      · rw [hjk, po_I1]
      · rw [po_I4 hjk]
        exact hs.1 j (by omega)
    · show gX4_zero_L2 o (n + 1) (nI k) s = gX4_zero_L2 o n (nI (k + 1)) _
      rw [gX4_zero_L2, hc, if_pos (nI_lt hk (by omega)), if_pos (po_ibd hk (by omega)), nI_clamp (by omega), Option.bind_some, nI_1, Option.bind_some]
theorem tc_empty : ∃ h', gX7_empty 59 h = some h' ∧ sc_S sp_S0 59 h' ∧ po_fr (po_in 59) h h' := by
  obtain ⟨_, _, c21, c23, c25, c27, c29⟩ := po_cap7 po_k59
  unfold gX7_empty
  rw [Option.bind_some, Option.bind_some, Option.bind_some]
  have hz : ∀ a, a < 30 → ∀ z, po_in 59 z = false → (z == 59 + a + 1) = false := fun a ha z hz => by
    have hz' : ¬ (59 ≤ z ∧ z < 59 + 31) := of_decide_eq_false hz
    simp
    omega
  obtain ⟨x1, e1, z1, f1⟩ := po_zero (h := ms_I (ms_I (ms_I h 59 0 0) 59 1 0) 59 7 0) c21 (by decide)
  rw [e1, Option.bind_some]
  obtain ⟨x2, e2, z2, f2⟩ := po_zero (h := x1) c23 (by decide)
  rw [e2, Option.bind_some]
  obtain ⟨x3, e3, z3, f3⟩ := po_zero (h := x2) c25 (by decide)
  rw [e3, Option.bind_some]
  obtain ⟨x4, e4, z4, f4⟩ := po_zero (h := x3) c27 (by decide)
  rw [e4, Option.bind_some]
  obtain ⟨x5, e5, z5, f5⟩ := po_zero (h := x4) c29 (by decide)
  rw [e5, Option.bind_some]
  have r0 : ∀ k, mh_I x5 59 k = mh_I (ms_I (ms_I (ms_I h 59 0 0) 59 1 0) 59 7 0) 59 k := fun k => by
    rw [f5.1 59 (by decide), f4.1 59 (by decide), f3.1 59 (by decide), f2.1 59 (by decide), f1.1 59 (by decide)]
  refine ⟨x5, rfl, ⟨⟨?_, ?_, ?_⟩, fun b hb => absurd hb (Nat.not_lt_zero _), fun r hr => absurd hr (Nat.not_lt_zero _), fun p hp => ⟨?_, ?_, ?_, ?_⟩⟩, po_fr_trans (po_fr_trans (po_fr_trans (po_fr_I po_in_self) (po_fr_I po_in_self)) (po_fr_I po_in_self)) (po_fr_trans (po_fr_mono f1 (hz 21 (by decide))) (po_fr_trans (po_fr_mono f2 (hz 23 (by decide))) (po_fr_trans (po_fr_mono f3 (hz 25 (by decide))) (po_fr_trans (po_fr_mono f4 (hz 27 (by decide))) (po_fr_mono f5 (hz 29 (by decide)))))))⟩
  · rw [r0, po_I4 (by decide), po_I4 (by decide), po_I1]
    rfl
  · rw [r0, po_I4 (by decide), po_I1]
    rfl
  · rw [r0, po_I1]
    rfl
  · rw [f5.1 (59 + 22) (by decide), f4.1 (59 + 22) (by decide), f3.1 (59 + 22) (by decide), f2.1 (59 + 22) (by decide)]
    exact (z1 p hp).trans rfl
  · rw [f5.1 (59 + 24) (by decide), f4.1 (59 + 24) (by decide), f3.1 (59 + 24) (by decide), f5.1 (59 + 26) (by decide), f4.1 (59 + 26) (by decide)]
    rw [show mh_I x2 (59 + 24) p = 0 from z2 p hp, show mh_I x3 (59 + 26) p = 0 from z3 p hp]
    rfl
  · rw [f5.1 (59 + 28) (by decide)]
    exact (z4 p hp).trans rfl
  · exact (z5 p hp).trans rfl
theorem tc_begin (H : sc_T T 1 h) (hl : T.1 ≤ 600) (hb : ∀ j, T.2 j < 256) : ∃ h', gX3_begin h = some h' ∧ tc_at T (sp_tok T 0) h' ∧ mh_I h' 5 1 = 0 ∧ mh_I h' 5 2 = -1 ∧ po_fw (fun z => z == 5 || z == 6) h h' := by
  unfold gX3_begin gX9_startWith
  have f0 : po_fw (fun z => z == 5 || z == 6) h (ms_I (ms_R (ms_I (ms_I h 5 1 0) 5 2 (-1)) 6 0 (some 1)) 6 3 0) := po_fw_trans (po_fw_trans (po_fw_trans (po_fw_of (po_fr_I (by decide))) (po_fw_of (po_fr_I (by decide)))) po_fw_R) (po_fw_of (po_fr_I (by decide)))
  have H0 : sc_T T 1 (ms_I (ms_R (ms_I (ms_I h 5 1 0) 5 2 (-1)) 6 0 (some 1)) 6 3 0) := ⟨(f0.1 1 (by decide) 1).trans H.1, fun j hj => by rw [f0.1 2 (by decide)]; exact H.2 j hj⟩
  obtain ⟨h', e1, e2, e3⟩ := tc_read (i := 0) H0 hl hb po_I1 (Nat.zero_le _)
  rw [Option.bind_some, Option.bind_some, Option.bind_some, Option.bind_some, e1, Option.bind_some, Option.bind_some]
  refine ⟨h', rfl, ⟨⟨tc_T H0 e3, e2⟩, ⟨hl, hb⟩, sp_tok_v (Nat.zero_le _)⟩, ?_, ?_, po_fw_trans f0 (po_fw_of (po_fr_mono e3 (fun z hz => (Bool.or_eq_false_iff.mp hz).2)))⟩
  · rw [e3.1 5 (by decide), po_I3 (by decide)]
    show mh_I (ms_I (ms_I h 5 1 0) 5 2 (-1)) 5 1 = 0
    rw [po_I4 (by decide), po_I1]
  · rw [e3.1 5 (by decide), po_I3 (by decide)]
    show mh_I (ms_I (ms_I h 5 1 0) 5 2 (-1)) 5 2 = -1
    rw [po_I1]
theorem po_fw_56 {a b : mm_H} (h : po_fw (fun z => z == 5 || z == 6) a b) : po_fw po_pf a b := po_fw_mono h (fun z hz => by
  have hz' : ¬ (z = 5 ∨ z = 6 ∨ (52 ≤ z ∧ z < 90)) := of_decide_eq_false hz
  simp
  omega)
theorem tc_setup (H : sc_T T 1 h) (hl : T.1 ≤ 600) (hb : ∀ j, T.2 j < 256) :
    (∃ C S, sp_setup T = .inr (C, S) ∧ sp_cok C ∧ sp_ok S ∧ sp_dy S = 0 ∧ ∃ h', gX3_parseSetup 52 59 h = some (true, h') ∧ sc_C C 52 h' ∧ sc_S S 59 h' ∧ (mh_I h' 5 1 = 0 ∧ mh_I h' 5 2 = -1) ∧ po_fw po_pf h h') ∨
    (∃ e, sp_setup T = .inl e ∧ ∃ h', gX3_parseSetup 52 59 h = some (false, h') ∧ tc_err e h' ∧ po_fw po_pf h h') := by
  obtain ⟨h1, e1, H1, g1, g2, f1⟩ := tc_begin H hl hb
  have f1' := po_fw_56 f1
  -- empty drafts
  have hC2 : sc_C sp_C0 52 (ms_I h1 52 0 0) := ⟨po_I1, fun p hp => absurd hp (Nat.not_lt_zero _)⟩
  have fr2 : po_fr po_dc h1 (ms_I h1 52 0 0) := po_fr_I (by decide)
  obtain ⟨h3, e3, hS3, f3⟩ := tc_empty (h := ms_I h1 52 0 0)
  have fr3 : po_fr po_ps h1 h3 := po_fr_trans (po_psC fr2) (po_psS f3)
  have H3 := tc_at_fr H1 (po_fr_trans fr2 (po_fr_refl _)) (by decide) (by decide) (by decide)
  have H3' := tc_at_fr H3 f3 (po_in_no (by decide)) (po_in_no (by decide)) (po_in_no (by decide))
  have hC3 := sc_C_fr hC2 f3 (po_in_no (by decide)) (po_in_no (by decide)) (po_in_no (by decide)) (po_in_no (by decide))
  have f3' : po_fw po_pf h h3 := po_fw_trans f1' (po_fw_of (po_ps_pf fr3))
  have ps5 : ∀ {b : mm_H}, po_fr po_ps h1 b → mh_I b 5 1 = 0 ∧ mh_I b 5 2 = -1 := fun {b} hf => ⟨(hf.1 5 (by decide) 1).trans g1, (hf.1 5 (by decide) 2).trans g2⟩
  have h6in : ∀ q, po_in 59 q = true → po_6 q = false := fun q hq => by
    have hq' : 59 ≤ q ∧ q < 59 + 31 := of_decide_eq_true hq
    show (q == 6) = false
    simp
    omega
  unfold gX3_parseSetup sp_setup gX1_empty
  rw [e1, Option.bind_some, Option.bind_some, Option.bind_some, e3, Option.bind_some]
  unfold gX3_takeWord
  rw [tc_isw H3', Option.bind_some]
  by_cases hw : sp_isw T (sp_tok T 0) 3 = true
  · obtain ⟨h4, e4, H4, f4⟩ := tc_next H3'
    rw [if_pos hw, if_pos hw, e4, Option.bind_some, Option.bind_some, if_pos rfl]
    have fr4 := po_fr_trans fr3 (po_ps6 f4)
    have hC4 := sc_C_fr hC3 f4 (by decide) (by decide) (by decide) (by decide)
    have hS4 := sc_fr hS3 f4 h6in
    rcases tc_semi H4 with ⟨k1, h5, e5, H5, f5⟩ | ⟨k1, h5, e5, E5, f5⟩
    · rw [e5, Option.bind_some, if_pos rfl, if_pos k1]
      have fr5 := po_fr_trans fr4 (po_ps6 f5)
      have hC5 := sc_C_fr hC4 f5 (by decide) (by decide) (by decide) (by decide)
      have hS5 := sc_fr hS4 f5 h6in
      by_cases hp : sp_isw T (sp_nx T (sp_nx T (sp_tok T 0))) 4 = true
      · rw [if_pos hp]
        rw [sp_prods_S, if_pos hp, if_pos (show sp_np sp_C0 < 8 by decide)]
        rcases tc_prod H5 hp hC5 sp_C0_ok (by decide) with ⟨C', t', a1, a2, a3, h6, b1, b2, b3, b5⟩ | ⟨e, a1, h6, b1, b2, b3⟩
        · rw [a1, b1, Option.bind_some, if_pos rfl]
          have hS6 : sc_S sp_S0 59 h6 := sc_fr hS5 b5 (fun q hq => by
            have hq' : 59 ≤ q ∧ q < 59 + 31 := of_decide_eq_true hq
            exact decide_eq_false (by omega))
          have fr6 := po_fr_trans fr5 (po_pp_ps b5)
          rcases tc_prods 8 mm_F 1 C' t' h6 b2 b3 hS6 a2 a3 rfl (by decide) (by decide) with ⟨C2, S2, c1, c2, c3, c4, h7, d1, d2, d3, d4⟩ | ⟨e, c1, h7, d1, d2, d3⟩
          · have fr7 := po_fr_trans fr6 d4
            exact Or.inl ⟨C2, S2, c1, c2, c3, c4, h7, d1, d2, d3, ps5 fr7, po_fw_trans f1' (po_fw_of (po_ps_pf fr7))⟩
          · exact Or.inr ⟨e, c1, h7, d1, d2, po_fw_trans f1' (po_fw_of (po_fr_trans (po_ps_pf fr6) d3))⟩
        · rw [a1, b1, Option.bind_some, if_neg Bool.false_ne_true]
          exact Or.inr ⟨e, rfl, h6, rfl, b2, po_fw_trans f1' (po_fw_of (po_fr_trans (po_ps_pf fr5) b3))⟩
      · rw [if_neg hp]
        obtain ⟨h6, e6, E6, f6⟩ := tc_fail (c := 1) (x := 1) H5 rfl
        unfold gX3_takeProduct gX3_takeWord
        have hpf : sp_isw T (sp_nx T (sp_nx T (sp_tok T 0))) 4 = false := by
          cases hq : sp_isw T (sp_nx T (sp_nx T (sp_tok T 0))) 4 with
          | true => exact absurd hq hp
          | false => rfl
        rw [tc_isw H5, hpf, Option.bind_some, if_neg Bool.false_ne_true, e6, Option.bind_some, Option.bind_some, if_neg Bool.false_ne_true, Option.bind_some, if_neg Bool.false_ne_true]
        exact Or.inr ⟨_, rfl, h6, rfl, E6, po_fw_trans f1' (po_fw_of (po_fr_trans (po_ps_pf fr5) (po_pf5 f6)))⟩
    · rw [e5, Option.bind_some, if_neg Bool.false_ne_true, if_neg k1]
      exact Or.inr ⟨_, rfl, h5, rfl, E5, po_fw_trans f1' (po_fw_of (po_fr_trans (po_ps_pf fr4) (po_pf5 f5)))⟩
  · obtain ⟨h4, e4, E4, f4⟩ := tc_fail (c := 1) (x := 1) H3' rfl
    rw [if_neg hw, if_neg hw, e4, Option.bind_some, Option.bind_some, if_neg Bool.false_ne_true]
    exact Or.inr ⟨_, rfl, h4, rfl, E4, po_fw_trans f3' (po_fw_of (po_pf5 f4))⟩
end PQV

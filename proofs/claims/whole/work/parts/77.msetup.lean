section PQW
/-! setup texts on the reference -/
variable {T : sp_T} {h : mm_H} {t : sp_K} {C : sp_C} {S : sp_S} {A : sp_A}
def po_mm (z : Nat) : Bool := z == 352 || z == 353
/-- where a parse goes: tokens, block 0, and, if something is wrong, the error -/
def tm_px (e : Bool) (h h' : mm_H) : Prop := po_fr po_mm h h' ∧ (∀ k, (k < 5 ∨ (6 < k ∧ k < 10) ∨ 13 < k ∨ (e = false ∧ k < 10)) → mh_I h' 352 k = mh_I h 352 k) ∧ ∀ k, 420 ≤ k → mh_I h' 353 k = mh_I h 353 k
theorem tm_px_trans {e : Bool} {a b c : mm_H} (h1 : tm_px e a b) (h2 : tm_px e b c) : tm_px e a c := ⟨po_fr_trans h1.1 h2.1, fun k hk => (h2.2.1 k hk).trans (h1.2.1 k hk), fun k hk => (h2.2.2 k hk).trans (h1.2.2 k hk)⟩
theorem tm_px_refl {e : Bool} (h : mm_H) : tm_px e h h := ⟨po_fr_refl h, fun _ _ => rfl, fun _ _ => rfl⟩
theorem tm_px_t {e : Bool} {a b : mm_H} (h : tm_fr a b) : tm_px e a b := ⟨po_fr_mono h.1 (fun z hz => (Bool.or_eq_false_iff.mp hz).1), fun k hk => h.2 k (by rcases hk with h | h | h | h <;> omega), fun k _ => h.1.1 353 (by decide) k⟩
theorem tm_px_e {a b : mm_H} (h : tm_ef a b) : tm_px true a b := ⟨po_fr_mono h.1 (fun z hz => (Bool.or_eq_false_iff.mp hz).1), fun k hk => h.2 k (by rcases hk with h | h | h | h <;> first | omega | exact absurd h.1 (by decide)), fun k _ => h.1.1 353 (by decide) k⟩
theorem tm_px_w {a b : mm_H} (h : tm_px false a b) : tm_px true a b := ⟨h.1, fun k hk => h.2.1 k (by rcases hk with h | h | h | h <;> first | omega | exact absurd h.1 (by decide)), h.2.2⟩
theorem tm_px_I {e : Bool} {k : Nat} {v : Int32} (hk : k < 420) : tm_px e h (ms_I h 353 k v) := ⟨po_fr_I (by decide), fun j _ => po_I3 (by decide), fun j hj => po_I4 (by omega)⟩
theorem tm_px_x {e : Bool} {a b : mm_H} (h : po_fx a b) : tm_px e a b := ⟨po_fr_mono h.1 (fun z hz => (Bool.or_eq_false_iff.mp hz).2), fun k _ => h.1.1 352 (by decide) k, fun k hk => h.2 k (decide_eq_true (Or.inl hk))⟩
theorem sm_C_fx {h' : mm_H} (ok : sp_cok C) (H : sm_C C 0 h) (hf : ∀ k, po_keep k = true → mh_I h' 353 k = mh_I h 353 k) : sm_C C 0 h' := by
  have n8 := ok.1
  refine ⟨(hf 1 (by decide)).trans H.1, fun p hp => ?_⟩
  have h6 := (ok.2 p hp).1
  obtain ⟨b1, b2, b3⟩ := H.2 p hp
  exact ⟨(hf _ (decide_eq_true (by omega))).trans b1, fun j hj => (hf _ (decide_eq_true (by omega))).trans (b2 j hj), (hf _ (decide_eq_true (by omega))).trans b3⟩
theorem sm_C_t {h' : mm_H} (ok : sp_cok C) (H : sm_C C 0 h) (hf : tm_fr h h') : sm_C C 0 h' := sm_C_fr ok H hf.1 (by decide)
theorem sm_S_t {h' : mm_H} (ok : sp_ok S) (H : sm_S S 0 h) (hf : tm_fr h h') : sm_S S 0 h' := sm_fr ok H hf.1 (by decide)
/-- a cell that no stock and no listed product stands on -/
theorem sm_S_w {k : Nat} {v : Int32} (ok : sp_ok S) (H : sm_S S 0 h) (hk : k = 1 ∨ (4 ≤ k ∧ k < 100 ∧ (k - 4) % 12 < 8) ∨ (100 + 4 * sp_nb S ≤ k ∧ k < 180)) : sm_S S 0 (ms_I h 353 k v) := by
  have n20 := ok.1.2.1
  have n10 := ok.1.2.2
  refine ⟨⟨?_, ?_, ?_⟩, fun x hx w hw => ?_, fun x hx => ⟨fun w hw => ?_, fun y hy => ?_⟩, fun x hx w hw => ?_⟩
  · rw [po_I4 (by omega)]; exact H.1.1
  · rw [po_I4 (by omega)]; exact H.1.2.1
  · rw [po_I4 (by omega)]; exact H.1.2.2
  · rw [po_I4 (by omega)]; exact H.2.1 x hx w hw
  · rw [po_I4 (by omega)]; exact (H.2.2.1 x hx).1 w hw
  · rw [po_I4 (by omega)]; exact (H.2.2.1 x hx).2 y hy
  · rw [po_I4 (by omega)]; exact H.2.2.2 x hx w hw
theorem sm_C_w {k : Nat} {v : Int32} (ok : sp_cok C) (H : sm_C C 0 h) (hk : 4 + 12 * sp_np C ≤ k) : sm_C C 0 (ms_I h 353 k v) := by
  have n8 := ok.1
  refine ⟨(po_I4 (by omega)).trans H.1, fun p hp => ?_⟩
  have h6 := (ok.2 p hp).1
  obtain ⟨b1, b2, b3⟩ := H.2 p hp
  exact ⟨(po_I4 (by omega)).trans b1, fun j hj => (po_I4 (by omega)).trans (b2 j hj), (po_I4 (by omega)).trans b3⟩
theorem tm_np (HC : sm_C C 0 h) : mh_I h 353 (Int32.toNatClampNeg 1) = nI (sp_np C) := HC.1
theorem tm_prod (H : tm_st T t h) (HC : sm_C C 0 h) (HS : sm_S S 0 h) (ok : sp_cok C) (okS : sp_ok S) (hp : sp_np C < 8) :
    (∃ C' t', sp_prod T C (sp_nx T t) = .inr (C', t') ∧ sp_cok C' ∧ sp_np C' = sp_np C + 1 ∧ ∃ h', gX11_parseNewProduct h = some (true, h') ∧ tm_st T t' h' ∧ sm_C C' 0 h' ∧ sm_S S 0 h' ∧ tm_px false h h') ∨
    (∃ e, sp_prod T C (sp_nx T t) = .inl e ∧ ∃ h', gX11_parseNewProduct h = some (false, h') ∧ tm_err e h' ∧ tm_px true h h') := by
  obtain ⟨h1, e1, H1, f1⟩ := tm_next H
  have HC1 := sm_C_t ok HC f1
  have HS1 := sm_S_t okS HS f1
  unfold gX11_parseNewProduct sp_prod
  rw [if_pos po_m1, tm_np HC, if_neg (show ¬ nI (sp_np C) = 8 from fun z => by have := (nI_eq (b := 8) (by omega) (by decide)).mp z; omega), e1, Option.bind_some]
  generalize sp_nx T t = t1 at H1
  have hl := H1.2.1.1
  have hv := H1.2.2.1
  rcases tm_short H1 with ⟨a1, a2, a3⟩ | ⟨c, a1, h2, e2, E2, f2⟩
  · rw [a3, Option.bind_some, if_pos rfl, tm_name H1 HC1 ok, Option.bind_some]
    cases hn : sp_nm T C t1 with
    | some p =>
      have hp' := sp_named_lt hn
      obtain ⟨h2, e2, E2, f2⟩ := tm_wrong (c := 3) (x := 3) H1 rfl
      have en : sp_namerr T C t1 = some 3 := by
        unfold sp_namerr
        rw [if_pos a1, hn, if_neg (fun z => by cases z.2)]
      rw [if_neg (show ¬ sp_fi (some p) = -1 from po_nm1 (by omega)), e2, Option.bind_some, en]
      exact Or.inr ⟨_, rfl, h2, rfl, E2, tm_px_trans (tm_px_t f1) (tm_px_e f2)⟩
    | none =>
      have en : sp_namerr T C t1 = none := by
        unfold sp_namerr
        rw [if_pos a1, hn, if_pos ⟨a2, rfl⟩]
      rw [if_pos (show sp_fi none = -1 from rfl), if_pos po_m1, tm_np HC1, show (4 : Int32) + nI (sp_np C) * 12 = nI (4 + 12 * sp_np C) by rw [show (12 : Int32) = nI 12 from rfl, show (4 : Int32) = nI 4 from rfl, pk_mul, nI_add, Nat.mul_comm], Option.bind_some, if_pos (po_bI (by omega)), nI_clamp (by omega), H1.1.2.2.1, H1.1.2.2.2.1, pk_sub hv.1, Option.bind_some, en]
      -- the name's letters
      generalize hat : 4 + 12 * sp_np C = at0
      generalize hsz : sk_e t1 - sk_s t1 = sz at a2
      have H2 : tm_st T t1 (ms_I h1 353 at0 (nI sz)) := tm_st_fr H1 (fun k => po_I3 (by decide)) (fun k _ => po_I3 (by decide))
      have HC2 : sm_C C 0 (ms_I h1 353 at0 (nI sz)) := sm_C_w ok HC1 (by omega)
      have HS2 : sm_S S 0 (ms_I h1 353 at0 (nI sz)) := sm_S_w okS HS1 (by omega)
      have f2 : tm_px false h1 (ms_I h1 353 at0 (nI sz)) := tm_px_I (by omega)
      have hlen2 : mh_I (ms_I h1 353 at0 (nI sz)) 353 at0 = nI sz := po_I1
      rw [H2.1.2.2.1, Option.bind_some]
      have loop : ∀ n j h2, j ≤ sz → sz - j < n → tm_st T t1 h2 → sm_C C 0 h2 → sm_S S 0 h2 → mh_I h2 353 at0 = nI sz → (∀ i, i < j → mh_I h2 353 (at0 + 1 + i) = nI (T.2 (sk_s t1 + i))) → tm_px false h h2 →
          ∃ h3, gX11_parseNewProduct_L89 (nI at0) n (nI (sk_s t1 + j)) h2 = (gX11_token h3).bind (fun (h20 : mm_H) =>
            (gX11_parseRanged ((nI at0 + 7)) 0 999 h20).bind (fun (x22 : (Bool × mm_H)) =>
            if x22.1 = true then
            (gX11_semicolon x22.2).bind (fun (x25 : (Bool × mm_H)) =>
            if x25.1 = true then
            if mm_ibd 1 4200 = true then
            if mm_ibd 1 4200 = true then
            (some (ms_I x25.2 353 (Int32.toNatClampNeg (1)) (((mh_I x25.2 353 (Int32.toNatClampNeg (1))) + 1)))).bind (fun (h30 : mm_H) =>
            some (true, h30)) else none else none
            else
            some (false, x25.2))
            else
            some (false, x22.2))) ∧ tm_st T t1 h3 ∧ sm_C C 0 h3 ∧ sm_S S 0 h3 ∧ mh_I h3 353 at0 = nI sz ∧ (∀ i, i < sz → mh_I h3 353 (at0 + 1 + i) = nI (T.2 (sk_s t1 + i))) ∧ tm_px false h h3 := by
        intro n
        induction n with
        | zero => intro j h2 _ h9; omega
        | succ n ih =>
          intro j h2 hj hn2 K KC KS k1 k2 k3
          rw [gX11_parseNewProduct_L89, K.1.2.2.2.1]
          by_cases hlt : j < sz
          · rw [if_pos (nI_lt (by omega) (by omega)), if_pos (po_ibd (n := 600) (by omega) (by decide)), K.1.2.2.1, show nI at0 + 1 + nI (sk_s t1 + j) - nI (sk_s t1) = nI (at0 + 1 + j) by rw [nI_1, nI_add, pk_sub (by omega)]; exact congrArg nI (by omega), if_pos (po_bI (by omega)), nI_clamp (by omega), nI_clamp (by omega), K.1.1.2 _ (by omega), Option.bind_some, nI_1, Option.bind_some]
            exact ih (j + 1) _ (by omega) (by omega) (tm_st_fr K (fun k => po_I3 (by decide)) (fun k _ => po_I3 (by decide))) (sm_C_w ok KC (by omega)) (sm_S_w okS KS (by omega)) ((po_I4 (by omega)).trans k1) (fun i hi => by
              by_cases hij : i = j
              · rw [hij, po_I1]
              · rw [po_I4 (by omega)]
                exact k2 i (by omega)) (tm_px_trans k3 (tm_px_I (by omega)))
          · rw [if_neg (nI_nlt (by omega) (by omega))]
            exact ⟨h2, rfl, K, KC, KS, k1, fun i hi => k2 i (by omega), k3⟩
      obtain ⟨h3, l1, K3, KC3, KS3, l2, l3, l4⟩ := loop mm_F 0 _ (Nat.zero_le _) (Nat.lt_of_le_of_lt (Nat.le_trans (Nat.sub_le _ _) a2) (by decide)) H2 HC2 HS2 hlen2 (fun i hi => absurd hi (Nat.not_lt_zero _)) (tm_px_trans (tm_px_t f1) f2)
      rw [show gX11_parseNewProduct_L89 (nI at0) mm_F (nI (sk_s t1)) (ms_I h1 353 at0 (nI sz)) = _ from l1]
      obtain ⟨h4, e4, H4, f4⟩ := tm_next K3
      have HC4 := sm_C_t ok KC3 f4
      have HS4 := sm_S_t okS KS3 f4
      have c4 : ∀ k, mh_I h4 353 k = mh_I h3 353 k := f4.1.1 353 (by decide)
      have p4 := tm_px_trans l4 (tm_px_t f4)
      rw [e4, Option.bind_some]
      rcases tm_ranged (lo := 0) (hi := 999) (a := at0 + 7) (x := 0) (y := 999) (z := nI at0 + 7) H4 (nI_add at0 7) (by omega) rfl rfl (by decide) (by decide) with ⟨b1, b2, h5, e5, H5, f5⟩ | ⟨c, b1, h5, e5, E5, f5⟩
      · rw [b1, e5, Option.bind_some, if_pos rfl]
        have HC5 := sm_C_t ok (sm_C_w (k := at0 + 7) (v := nI (sk_v (sp_nx T t1))) ok HC4 (by omega)) f5
        have HS5 := sm_S_t okS (sm_S_w (k := at0 + 7) (v := nI (sk_v (sp_nx T t1))) okS HS4 (by omega)) f5
        have c5 : ∀ k, mh_I h5 353 k = mh_I (ms_I h4 353 (at0 + 7) (nI (sk_v (sp_nx T t1)))) 353 k := f5.1.1 353 (by decide)
        have p5 := tm_px_trans p4 (tm_px_trans (tm_px_I (k := at0 + 7) (v := nI (sk_v (sp_nx T t1))) (by omega)) (tm_px_t f5))
        rcases tm_semi H5 with ⟨k1, h6, e6, H6, f6⟩ | ⟨k1, h6, e6, E6, f6⟩
        · have HC6 := sm_C_t ok HC5 f6
          have HS6 := sm_S_t okS HS5 f6
          have c6 : ∀ k, mh_I h6 353 k = mh_I h5 353 k := f6.1.1 353 (by decide)
          rw [e6, Option.bind_some, if_pos rfl, if_pos po_m1, if_pos po_m1, tm_np HC6, nI_1, Option.bind_some, po_t1]
          dsimp only
          rw [if_pos k1]
          refine Or.inl ⟨_, _, rfl, sp_addC_ok ok hp (by omega) b2 H.2.1.2, rfl, _, rfl, tm_st_fr H6 (fun k => po_I3 (by decide)) (fun k _ => po_I3 (by decide)), ⟨po_I1, fun p hp2 => ?_⟩, sm_S_w okS HS6 (Or.inl rfl), tm_px_trans p5 (tm_px_trans (tm_px_t f6) (tm_px_I (by decide)))⟩
          have hp3 : p < sp_np C + 1 := hp2
          by_cases hpe : p = sp_np C
          · subst hpe
            refine ⟨?_, fun i hi => ?_, ?_⟩
            · rw [po_I4 (by omega), c6, c5, po_I4 (by omega), c4, show 420 * 0 + 4 + 12 * sp_np C = at0 by omega, l2]
              exact congrArg nI (if_pos rfl).symm
            · have hi2 : i < (if sp_np C = sp_np C then sz else sp_nl C (sp_np C)) := hi
              rw [if_pos rfl] at hi2
              rw [po_I4 (by omega), c6, c5, po_I4 (by omega), c4, show 420 * 0 + 5 + 12 * sp_np C + i = at0 + 1 + i by omega, l3 i hi2]
              exact congrArg nI (if_pos rfl).symm
            · rw [po_I4 (by omega), c6, c5, show 420 * 0 + 11 + 12 * sp_np C = at0 + 7 by omega, po_I1]
              exact congrArg nI (if_pos rfl).symm
          · obtain ⟨g1, g2, g3⟩ := HC6.2 p (by omega)
            refine ⟨?_, fun i hi => ?_, ?_⟩
            · rw [po_I4 (by omega)]
              exact g1.trans (congrArg nI (if_neg hpe).symm)
            · have hi2 : i < (if p = sp_np C then sz else sp_nl C p) := hi
              rw [if_neg hpe] at hi2
              rw [po_I4 (by omega)]
              exact (g2 i hi2).trans (congrArg nI (if_neg hpe).symm)
            · rw [po_I4 (by omega)]
              exact g3.trans (congrArg nI (if_neg hpe).symm)
        · rw [e6, Option.bind_some, if_neg Bool.false_ne_true]
          dsimp only
          rw [if_neg k1]
          exact Or.inr ⟨_, rfl, h6, rfl, E6, tm_px_trans (tm_px_w p5) (tm_px_e f6)⟩
      · rw [b1, e5, Option.bind_some, if_neg Bool.false_ne_true]
        exact Or.inr ⟨_, rfl, h5, rfl, E5, tm_px_trans (tm_px_w p4) (tm_px_e f5)⟩
  · rw [e2, Option.bind_some, if_neg Bool.false_ne_true]
    have en : sp_namerr T C t1 = some c := by
      unfold sp_namerr
      by_cases hk : sk_k t1 = 1
      · rw [if_pos hk] at a1 ⊢
        by_cases h6 : sk_e t1 - sk_s t1 ≤ 6
        · rw [if_pos h6] at a1
          cases a1
        · rw [if_neg h6] at a1
          rw [if_neg (fun z => h6 z.1)]
          exact a1
      · rw [if_neg hk] at a1 ⊢
        exact a1
    rw [en]
    exact Or.inr ⟨_, rfl, h2, rfl, E2, tm_px_trans (tm_px_t f1) (tm_px_e f2)⟩
theorem tm_nb (HS : sm_S S 0 h) : mh_I h 353 (Int32.toNatClampNeg 2) = nI (sp_nb S) := HS.1.2.1
/-- a batch -/
theorem tm_bat (H : tm_st T t h) (HC : sm_C C 0 h) (HS : sm_S S 0 h) (okC : sp_cok C) (ok : sp_ok S) (hn : sp_nb S < 20) :
    (∃ S' t', sp_bat T C S (sp_nx T t) = .inr (S', t') ∧ sp_ok S' ∧ sp_nb S' = sp_nb S + 1 ∧ sp_dy S' = sp_dy S ∧ ∃ h', gX11_parseNewBatch h = some (true, h') ∧ tm_st T t' h' ∧ sm_C C 0 h' ∧ sm_S S' 0 h' ∧ tm_px false h h') ∨
    (∃ e, sp_bat T C S (sp_nx T t) = .inl e ∧ ∃ h', gX11_parseNewBatch h = some (false, h') ∧ tm_err e h' ∧ tm_px true h h') := by
  obtain ⟨h1, e1, H1, f1⟩ := tm_next H
  have HC1 := sm_C_t okC HC f1
  have HS1 := sm_S_t ok HS f1
  have h8 := okC.1
  unfold gX11_parseNewBatch sp_bat
  rw [if_pos po_m2, tm_nb HS, if_neg (show ¬ nI (sp_nb S) = 20 from fun z => by have := (nI_eq (b := 20) (by omega) (by decide)).mp z; omega), e1, Option.bind_some]
  generalize sp_nx T t = t1 at H1
  rcases tm_short H1 with ⟨a1, a2, a3⟩ | ⟨c, a1, h2, e2, E2, f2⟩
  · rw [a3, Option.bind_some, if_pos rfl, tm_name H1 HC1 okC, Option.bind_some]
    cases hm : sp_nm T C t1 with
    | none =>
      obtain ⟨h2, e2, E2, f2⟩ := tm_wrong (c := 3) (x := 3) H1 rfl
      have en : sp_knerr T C t1 = some 3 := by
        unfold sp_knerr
        rw [if_pos a1, hm, if_neg (fun z => by cases z)]
      rw [if_pos (show sp_fi none = -1 from rfl), e2, Option.bind_some, en]
      exact Or.inr ⟨_, rfl, h2, rfl, E2, tm_px_trans (tm_px_t f1) (tm_px_e f2)⟩
    | some p =>
      have hp := sp_named_lt hm
      have en : sp_knerr T C t1 = none := by
        unfold sp_knerr
        rw [if_pos a1, hm]
        rfl
      obtain ⟨h2, e2, H2, f2⟩ := tm_next H1
      have HC2 := sm_C_t okC HC1 f2
      have HS2 := sm_S_t ok HS1 f2
      have p2 : tm_px false h h2 := tm_px_trans (tm_px_t f1) (tm_px_t f2)
      rw [if_neg (show ¬ sp_fi (some p) = -1 from po_nm1 (by omega)), e2, Option.bind_some, if_pos po_m2, tm_nb HS2, show (100 : Int32) + nI (sp_nb S) * 4 = nI (100 + 4 * sp_nb S) by rw [show (4 : Int32) = nI 4 from rfl, show (100 : Int32) = nI 100 from rfl, pk_mul, nI_add, Nat.mul_comm], Option.bind_some, en]
      generalize hat : 100 + 4 * sp_nb S = at0
      dsimp only
      rcases tm_ranged (lo := 1) (hi := 999) (a := at0 + 1) (x := 1) (y := 999) (z := nI at0 + 1) H2 (nI_add at0 1) (by omega) rfl rfl (by decide) (by decide) with ⟨b1, b2, h3, e3, H3, f3⟩ | ⟨c, b1, h3, e3, E3, f3⟩
      · rw [b1, e3, Option.bind_some, if_pos rfl]
        have HC3 := sm_C_t okC (sm_C_w (k := at0 + 1) (v := nI (sk_v (sp_nx T t1))) okC HC2 (by omega)) f3
        have HS3 := sm_S_t ok (sm_S_w (k := at0 + 1) (v := nI (sk_v (sp_nx T t1))) ok HS2 (by omega)) f3
        have c3 : ∀ k, mh_I h3 353 k = mh_I (ms_I h2 353 (at0 + 1) (nI (sk_v (sp_nx T t1)))) 353 k := f3.1.1 353 (by decide)
        have p3 := tm_px_trans p2 (tm_px_trans (tm_px_I (k := at0 + 1) (v := nI (sk_v (sp_nx T t1))) (by omega)) (tm_px_t f3))
        dsimp only
        rcases tm_ranged (lo := 0) (hi := 9999) (a := at0 + 2) (x := 0) (y := 9999) (z := nI at0 + 2) H3 (nI_add at0 2) (by omega) rfl rfl (by decide) (by decide) with ⟨d1, d2, h4, e4, H4, f4⟩ | ⟨c, d1, h4, e4, E4, f4⟩
        · rw [d1, e4, Option.bind_some, if_pos rfl]
          have HC4 := sm_C_t okC (sm_C_w (k := at0 + 2) (v := nI (sk_v (sp_nx T (sp_nx T t1)))) okC HC3 (by omega)) f4
          have HS4 := sm_S_t ok (sm_S_w (k := at0 + 2) (v := nI (sk_v (sp_nx T (sp_nx T t1)))) ok HS3 (by omega)) f4
          have c4 : ∀ k, mh_I h4 353 k = mh_I (ms_I h3 353 (at0 + 2) (nI (sk_v (sp_nx T (sp_nx T t1))))) 353 k := f4.1.1 353 (by decide)
          have p4 := tm_px_trans p3 (tm_px_trans (tm_px_I (k := at0 + 2) (v := nI (sk_v (sp_nx T (sp_nx T t1)))) (by omega)) (tm_px_t f4))
          dsimp only
          rcases tm_ranged (lo := 1) (hi := 999) (a := at0 + 3) (x := 1) (y := 999) (z := nI at0 + 3) H4 (nI_add at0 3) (by omega) rfl rfl (by decide) (by decide) with ⟨g1, g2, h5, e5, H5, f5⟩ | ⟨c, g1, h5, e5, E5, f5⟩
          · rw [g1, e5, Option.bind_some, if_pos rfl]
            have HC5 := sm_C_t okC (sm_C_w (k := at0 + 3) (v := nI (sk_v (sp_nx T (sp_nx T (sp_nx T t1))))) okC HC4 (by omega)) f5
            have HS5 := sm_S_t ok (sm_S_w (k := at0 + 3) (v := nI (sk_v (sp_nx T (sp_nx T (sp_nx T t1))))) ok HS4 (by omega)) f5
            have c5 : ∀ k, mh_I h5 353 k = mh_I (ms_I h4 353 (at0 + 3) (nI (sk_v (sp_nx T (sp_nx T (sp_nx T t1)))))) 353 k := f5.1.1 353 (by decide)
            have p5 := tm_px_trans p4 (tm_px_trans (tm_px_I (k := at0 + 3) (v := nI (sk_v (sp_nx T (sp_nx T (sp_nx T t1))))) (by omega)) (tm_px_t f5))
            dsimp only
            rcases tm_semi H5 with ⟨k1, h6, e6, H6, f6⟩ | ⟨k1, h6, e6, E6, f6⟩
            · have HC6 := sm_C_t okC HC5 f6
              have HS6 := sm_S_t ok HS5 f6
              have c6 : ∀ k, mh_I h6 353 k = mh_I h5 353 k := f6.1.1 353 (by decide)
              have v1 : mh_I h6 353 (at0 + 1) = nI (sk_v (sp_nx T t1)) := by rw [c6, c5, po_I4 (by omega), c4, po_I4 (by omega), c3, po_I1]
              have v2 : mh_I h6 353 (at0 + 2) = nI (sk_v (sp_nx T (sp_nx T t1))) := by rw [c6, c5, po_I4 (by omega), c4, po_I1]
              have v3 : mh_I h6 353 (at0 + 3) = nI (sk_v (sp_nx T (sp_nx T (sp_nx T t1)))) := by rw [c6, c5, po_I1]
              obtain ⟨h7, e7, HS7, f7⟩ := pm_add HS6 ok (p := p) (q := sk_v (sp_nx T t1)) (e := sk_v (sp_nx T (sp_nx T t1))) (c := sk_v (sp_nx T (sp_nx T (sp_nx T t1)))) hn (by omega)
              have w1 : nI at0 + 1 = nI (at0 + 1) := nI_add at0 1
              have w2 : nI at0 + 2 = nI (at0 + 2) := nI_add at0 2
              have w3 : nI at0 + 3 = nI (at0 + 3) := nI_add at0 3
              rw [e6, Option.bind_some, if_pos rfl, w1, w2, w3, if_pos (po_bI (by omega)), if_pos (po_bI (by omega)), if_pos (po_bI (by omega)), nI_clamp (by omega), nI_clamp (by omega), nI_clamp (by omega), v1, v2, v3, show sp_fi (some p) = nI p from rfl, e7, Option.bind_some]
              dsimp only
              rw [if_pos k1]
              exact Or.inl ⟨_, _, rfl, sp_add_ok ok hn (show p < 8 by omega) b2 d2 g2, rfl, rfl, h7, rfl, tm_st_fr H6 (fun k => f7.1.1 355 (by decide) k) (fun k _ => f7.1.1 352 (by decide) k), sm_C_fx okC HC6 f7.2, HS7, tm_px_trans p5 (tm_px_trans (tm_px_t f6) (tm_px_x f7))⟩
            · rw [e6, Option.bind_some, if_neg Bool.false_ne_true]
              dsimp only
              rw [if_neg k1]
              exact Or.inr ⟨_, rfl, h6, rfl, E6, tm_px_trans (tm_px_w p5) (tm_px_e f6)⟩
          · rw [g1, e5, Option.bind_some, if_neg Bool.false_ne_true]
            exact Or.inr ⟨_, rfl, h5, rfl, E5, tm_px_trans (tm_px_w p4) (tm_px_e f5)⟩
        · rw [d1, e4, Option.bind_some, if_neg Bool.false_ne_true]
          exact Or.inr ⟨_, rfl, h4, rfl, E4, tm_px_trans (tm_px_w p3) (tm_px_e f4)⟩
      · rw [b1, e3, Option.bind_some, if_neg Bool.false_ne_true]
        exact Or.inr ⟨_, rfl, h3, rfl, E3, tm_px_trans (tm_px_w p2) (tm_px_e f3)⟩
  · rw [e2, Option.bind_some, if_neg Bool.false_ne_true]
    have en : sp_knerr T C t1 = some c := by
      unfold sp_knerr
      by_cases hk : sk_k t1 = 1
      · rw [if_pos hk] at a1 ⊢
        by_cases h6 : sk_e t1 - sk_s t1 ≤ 6
        · rw [if_pos h6] at a1
          cases a1
        · rw [if_neg h6] at a1
          rw [sp_nm_long okC h6, if_neg (fun z => by cases z)]
          exact a1
      · rw [if_neg hk] at a1 ⊢
        exact a1
    rw [en]
    exact Or.inr ⟨_, rfl, h2, rfl, E2, tm_px_trans (tm_px_t f1) (tm_px_e f2)⟩
theorem sp_w33 (t : sp_K) : sp_isw T t 33 = sp_isw T t 7 := sp_isw_eq (by decide) (by decide)
theorem sp_w32 (t : sp_K) : sp_isw T t 32 = sp_isw T t 6 := sp_isw_eq (by decide) (by decide)
theorem sp_w31 (t : sp_K) : sp_isw T t 31 = sp_isw T t 5 := sp_isw_eq (by decide) (by decide)
theorem tm_bats (okC : sp_cok C) : ∀ m n w S t h, tm_st T t h → sm_C C 0 h → sm_S S 0 h → sp_ok S → sp_nb S = w → w + m = 21 → w ≤ 20 → m < n →
    (∃ S', sp_bats T C m S t = .inr S' ∧ sp_ok S' ∧ sp_dy S' = sp_dy S ∧ ∃ h', gX11_parseSetup_L83 n h = some (true, h') ∧ sm_C C 0 h' ∧ sm_S S' 0 h' ∧ tm_px false h h') ∨
    (∃ e, sp_bats T C m S t = .inl e ∧ ∃ h', gX11_parseSetup_L83 n h = some (false, h') ∧ tm_err e h' ∧ tm_px true h h') := by
  intro m
  induction m with
  | zero => intro n w S t h _ _ _ _ _ h9 h10; omega
  | succ m ih =>
    intro n w S t h H hC hS ok hw hm hw2 hn
    obtain ⟨n, rfl⟩ : ∃ k, n = k + 1 := ⟨n - 1, by omega⟩
    rw [gX11_parseSetup_L83, sp_bats_S, tm_isw H, sp_w33, Option.bind_some]
    cases hi : sp_isw T t 7 with
    | false =>
      rw [if_neg Bool.false_ne_true, if_neg Bool.false_ne_true]
      by_cases hk : sk_k t = 0
      · rw [if_pos (show mh_I h 352 11 = 0 from (tm_k (n := 0) H (by decide)).mpr hk), if_pos hk]
        exact Or.inl ⟨S, rfl, ok, rfl, h, rfl, hC, hS, tm_px_refl h⟩
      · obtain ⟨h', e1, e2, e3⟩ := tm_wrong (c := 1) (x := 1) H rfl
        rw [if_neg (show ¬ mh_I h 352 11 = 0 from fun z => hk ((tm_k (n := 0) H (by decide)).mp z)), if_neg hk, e1, Option.bind_some, if_neg Bool.false_ne_true]
        exact Or.inr ⟨_, rfl, h', rfl, e2, tm_px_e e3⟩
    | true =>
      rw [if_pos rfl, if_pos rfl]
      by_cases h20 : sp_nb S < 20
      · rw [if_pos h20]
        rcases tm_bat H hC hS okC ok h20 with ⟨S', t', a1, a2, a3, a4, h1, b1, b2, b3, b4, b5⟩ | ⟨e, a1, h1, b1, b2, b3⟩
        · rw [a1, b1, Option.bind_some, if_pos rfl]
          rcases ih n (w + 1) S' t' h1 b2 b3 b4 a2 (by omega) (by omega) (by omega) (by omega) with ⟨S2, c1, c2, c3, h2, d1, d2, d3, d4⟩ | ⟨e, c1, h2, d1, d2, d3⟩
          · exact Or.inl ⟨S2, c1, c2, c3.trans a4, h2, d1, d2, d3, tm_px_trans b5 d4⟩
          · exact Or.inr ⟨e, c1, h2, d1, d2, tm_px_trans (tm_px_w b5) d3⟩
        · rw [a1, b1, Option.bind_some, if_neg Bool.false_ne_true]
          exact Or.inr ⟨e, rfl, h1, rfl, b2, b3⟩
      · obtain ⟨h', e1, e2, e3⟩ := tm_wrong (c := 4) (x := 4) H rfl
        rw [if_neg h20]
        unfold gX11_parseNewBatch
        rw [if_pos po_m2, tm_nb hS, if_pos (show nI (sp_nb S) = 20 by rw [show sp_nb S = 20 by omega]; rfl), e1, Option.bind_some, Option.bind_some, if_neg Bool.false_ne_true]
        exact Or.inr ⟨_, rfl, h', rfl, e2, tm_px_e e3⟩
theorem tm_prods : ∀ m n w C t h, tm_st T t h → sm_C C 0 h → sm_S sp_S0 0 h → sp_cok C → sp_np C = w → w + m = 9 → w ≤ 8 → m < n →
    (∃ C' S', sp_setup2 T (sp_prods T m C t) = .inr (C', S') ∧ sp_cok C' ∧ sp_ok S' ∧ sp_dy S' = 0 ∧ ∃ h', gX11_parseSetup_L65 n h = some (true, h') ∧ sm_C C' 0 h' ∧ sm_S S' 0 h' ∧ tm_px false h h') ∨
    (∃ e, sp_setup2 T (sp_prods T m C t) = .inl e ∧ ∃ h', gX11_parseSetup_L65 n h = some (false, h') ∧ tm_err e h' ∧ tm_px true h h') := by
  intro m
  induction m with
  | zero => intro n w C t h _ _ _ _ _ h9 h10; omega
  | succ m ih =>
    intro n w C t h H hC hS ok hw hm hw2 hn
    obtain ⟨n, rfl⟩ : ∃ k, n = k + 1 := ⟨n - 1, by omega⟩
    rw [gX11_parseSetup_L65, sp_prods_S, tm_isw H, sp_w32, Option.bind_some]
    cases hi : sp_isw T t 6 with
    | false =>
      rw [if_neg Bool.false_ne_true, if_neg Bool.false_ne_true]
      rcases tm_bats ok 21 mm_F 0 sp_S0 t h H hC hS sp_S0_ok rfl rfl (by decide) (by decide) with ⟨S', a1, a2, a3, h', b1, b2, b3, b4⟩ | ⟨e, a1, h', b1, b2, b3⟩
      · refine Or.inl ⟨C, S', ?_, ok, a2, a3, h', b1, b2, b3, b4⟩
        show (match sp_bats T C 21 sp_S0 t with | .inl e => .inl e | .inr S => .inr (C, S) : (Nat × Nat) ⊕ (sp_C × sp_S)) = _
        rw [a1]
      · refine Or.inr ⟨e, ?_, h', b1, b2, b3⟩
        show (match sp_bats T C 21 sp_S0 t with | .inl e => .inl e | .inr S => .inr (C, S) : (Nat × Nat) ⊕ (sp_C × sp_S)) = _
        rw [a1]
    | true =>
      rw [if_pos rfl, if_pos rfl]
      by_cases h8 : sp_np C < 8
      · rw [if_pos h8]
        rcases tm_prod H hC hS ok sp_S0_ok h8 with ⟨C', t', a1, a2, a3, h1, b1, b2, b3, b4, b5⟩ | ⟨e, a1, h1, b1, b2, b3⟩
        · rw [a1, b1, Option.bind_some, if_pos rfl]
          rcases ih n (w + 1) C' t' h1 b2 b3 b4 a2 (by omega) (by omega) (by omega) (by omega) with ⟨C2, S2, c1, c2, c3, c4, h2, d1, d2, d3, d4⟩ | ⟨e, c1, h2, d1, d2, d3⟩
          · exact Or.inl ⟨C2, S2, c1, c2, c3, c4, h2, d1, d2, d3, tm_px_trans b5 d4⟩
          · exact Or.inr ⟨e, c1, h2, d1, d2, tm_px_trans (tm_px_w b5) d3⟩
        · rw [a1, b1, Option.bind_some, if_neg Bool.false_ne_true]
          exact Or.inr ⟨e, rfl, h1, rfl, b2, b3⟩
      · obtain ⟨h', e1, e2, e3⟩ := tm_wrong (c := 4) (x := 4) H rfl
        rw [if_neg h8]
        unfold gX11_parseNewProduct
        rw [if_pos po_m1, tm_np hC, if_pos (show nI (sp_np C) = 8 by rw [show sp_np C = 8 by omega]; rfl), e1, Option.bind_some, Option.bind_some, if_neg Bool.false_ne_true]
        exact Or.inr ⟨_, rfl, h', rfl, e2, tm_px_e e3⟩
/-- block 0 cleared -/
theorem tm_clear {R : mm_H → Option (Bool × mm_H)} (hR : ∀ n h2, gX11_parseSetup_L2 (n + 1) (nI 420) h2 = R h2) (h : mm_H) : ∃ h', gX11_parseSetup_L2 mm_F 0 h = R h' ∧ (∀ j, j < 420 → mh_I h' 353 j = 0) ∧ tm_px false h h' ∧ po_fr po_m353 h h' := by
  have key : ∀ n i h1, i ≤ 420 → 420 - i < n → (∀ j, j < i → mh_I h1 353 j = 0) → tm_px false h h1 → po_fr po_m353 h h1 → ∃ h', gX11_parseSetup_L2 n (nI i) h1 = R h' ∧ (∀ j, j < 420 → mh_I h' 353 j = 0) ∧ tm_px false h h' ∧ po_fr po_m353 h h' := by
    intro n
    induction n with
    | zero => intro i h1 _ h9; omega
    | succ n ih =>
      intro i h1 hi hn hz hf hg
      by_cases hlt : i < 420
      · rw [gX11_parseSetup_L2, if_pos (show nI i < 420 from nI_lt hlt (by decide)), if_pos (po_bI (by omega)), nI_clamp (by omega), Option.bind_some, nI_1, Option.bind_some]
        exact ih (i + 1) _ (by omega) (by omega) (fun j hj => by
          by_cases hji : j = i
          · rw [hji, po_I1]
          · rw [po_I4 hji]
            exact hz j (by omega)) (tm_px_trans hf (tm_px_I hlt)) (po_fr_trans hg (po_fr_I (by decide)))
      · rw [show i = 420 by omega, hR]
        exact ⟨h1, rfl, fun j hj => hz j (by omega), hf, hg⟩
  exact key mm_F 0 h (by decide) (by decide) (fun j hj => absurd hj (Nat.not_lt_zero _)) (tm_px_refl h) (po_fr_refl h)
theorem tm_setup (H : tm_st T (sp_tok T 0) h) :
    (∃ C S, sp_setup T = .inr (C, S) ∧ sp_cok C ∧ sp_ok S ∧ sp_dy S = 0 ∧ ∃ h', gX11_parseSetup h = some (true, h') ∧ sm_C C 0 h' ∧ sm_S S 0 h' ∧ tm_px false h h') ∨
    (∃ e, sp_setup T = .inl e ∧ ∃ h', gX11_parseSetup h = some (false, h') ∧ tm_err e h' ∧ tm_px true h h') := by
  obtain ⟨h1, e1, z1, p1, q1⟩ := tm_clear (fun n h2 => by rw [gX11_parseSetup_L2, if_neg (show ¬ nI 420 < 420 by decide)]) h
  have H1 : tm_st T (sp_tok T 0) h1 := tm_st_fr H (fun k => q1.1 355 (by decide) k) (fun k _ => q1.1 352 (by decide) k)
  have HC1 : sm_C sp_C0 0 h1 := ⟨z1 1 (by decide), fun p hp => absurd hp (Nat.not_lt_zero _)⟩
  have HS1 : sm_S sp_S0 0 h1 := ⟨⟨z1 0 (by decide), z1 2 (by decide), z1 3 (by decide)⟩, fun b hb => absurd hb (Nat.not_lt_zero _), fun r hr => absurd hr (Nat.not_lt_zero _), fun p hp w hw => z1 _ (by omega)⟩
  unfold gX11_parseSetup sp_setup
  rw [e1, tm_isw H1, sp_w31, Option.bind_some]
  by_cases hw : sp_isw T (sp_tok T 0) 5 = true
  · obtain ⟨h2, e2, H2, f2⟩ := tm_next H1
    rw [if_pos hw, if_pos hw, e2, Option.bind_some]
    rcases tm_semi H2 with ⟨k1, h3, e3, H3, f3⟩ | ⟨k1, h3, e3, E3, f3⟩
    · have p3 : tm_px false h h3 := tm_px_trans p1 (tm_px_trans (tm_px_t f2) (tm_px_t f3))
      rw [e3, Option.bind_some, if_pos rfl, if_pos k1, tm_isw H3, sp_w32, Option.bind_some]
      by_cases hp : sp_isw T (sp_nx T (sp_nx T (sp_tok T 0))) 6 = true
      · rw [if_pos hp, if_pos hp]
        rcases tm_prods 9 mm_F 0 sp_C0 _ h3 H3 (sm_C_t sp_C0_ok (sm_C_t sp_C0_ok HC1 f2) f3) (sm_S_t sp_S0_ok (sm_S_t sp_S0_ok HS1 f2) f3) sp_C0_ok rfl rfl (by decide) (by decide) with ⟨C2, S2, c1, c2, c3, c4, h4, d1, d2, d3, d4⟩ | ⟨e, c1, h4, d1, d2, d3⟩
        · exact Or.inl ⟨C2, S2, c1, c2, c3, c4, h4, d1, d2, d3, tm_px_trans p3 d4⟩
        · exact Or.inr ⟨e, c1, h4, d1, d2, tm_px_trans (tm_px_w p3) d3⟩
      · obtain ⟨h4, e4, E4, f4⟩ := tm_wrong (c := 1) (x := 1) H3 rfl
        rw [if_neg hp, if_neg hp, e4, Option.bind_some]
        exact Or.inr ⟨_, rfl, h4, rfl, E4, tm_px_trans (tm_px_w p3) (tm_px_e f4)⟩
    · rw [e3, Option.bind_some, if_neg Bool.false_ne_true, if_neg k1]
      exact Or.inr ⟨_, rfl, h3, rfl, E3, tm_px_trans (tm_px_w (tm_px_trans p1 (tm_px_t f2))) (tm_px_e f3)⟩
  · obtain ⟨h2, e2, E2, f2⟩ := tm_wrong (c := 1) (x := 1) H1 rfl
    rw [if_neg hw, if_neg hw, e2, Option.bind_some]
    exact Or.inr ⟨_, rfl, h2, rfl, E2, tm_px_trans (tm_px_w p1) (tm_px_e f2)⟩
end PQW

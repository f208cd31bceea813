section PPW
/-! remembering changes, on both sides -/
theorem po_kd95 : ∀ k, k < 6 → mm_kd (91 + 1 + 3 + 31 * k) = (0, 7) := by decide +kernel
theorem po_kd285 : ∀ k, k < 2 → mm_kd (281 + 1 + 3 + 31 * k) = (0, 7) := by decide +kernel
theorem po_c91 : mm_cap 91 = 6 := by decide +kernel
theorem po_c93 : mm_cap (91 + 2) = 6 := by decide +kernel
theorem po_c281 : mm_cap 281 = 2 := by decide +kernel
theorem po_c283 : mm_cap (281 + 2) = 2 := by decide +kernel
def po_hs (q : Nat) : Bool := decide (90 ≤ q ∧ q < 281)
def sp_push (S : sp_S) (U : List sp_S) : List sp_S := (S :: U).take 6
theorem sp_push_len (S : sp_S) (U : List sp_S) : (sp_push S U).length = min 6 (U.length + 1) := by
  unfold sp_push
  rw [List.length_take, List.length_cons]
theorem sp_push_at {S S' : sp_S} {U : List sp_S} {i : Nat} (hi : (sp_push S U)[i]? = some S') : i < 6 ∧ ((i = 0 ∧ S' = S) ∨ ∃ k, i = k + 1 ∧ U[k]? = some S') := by
  unfold sp_push at hi
  rw [List.getElem?_take] at hi
  by_cases h6 : i < 6
  · rw [if_pos h6] at hi
    refine ⟨h6, ?_⟩
    cases i with
    | zero => exact Or.inl ⟨rfl, (Option.some.inj hi).symm⟩
    | succ k => exact Or.inr ⟨k, rfl, hi⟩
  · rw [if_neg h6] at hi
    cases hi
theorem pc_remember {S : sp_S} {U : List sp_S} {h : mm_H} (H : sc_S S 21 h) (ok : sp_ok S) (HU : sc_U U h) (h6 : U.length ≤ 6) :
    ∃ h', gX2_remember 21 h = some h' ∧ sc_U (sp_push S U) h' ∧ po_fr po_hs h h' := by
  obtain ⟨nx, h1, h2, h3, h4⟩ := HU
  unfold gX2_remember
  obtain ⟨a, e1, e2, e3, e4, e5⟩ := pc_store (o := 91) (n := 6) (k := nx) (h := h) po_c91 po_c93 (by decide) h1 (po_kd95 nx h1) (by omega)
  have n90 : (90 == 91 + 3 || po_in (91 + 1 + 3 + 31 * nx) 90) = false := by
    rw [po_in_no (by omega)]
    decide
  rw [h2, e1, Option.bind_some, Option.bind_some, e5.1 90 n90, h2, nI_1, show (6 : Int32) = nI 6 from rfl, pk_rem (by omega) (by decide) (by decide), po_I4 (by decide), e5.1 90 n90, h3, nI_1, po_minN (by decide) (by omega), Option.bind_some]
  refine ⟨_, rfl, ⟨(nx + 1) % 6, by omega, ?_, ?_, fun i S' hi => ?_⟩, ?_⟩
  · rw [po_I4 (by decide), po_I1]
  · rw [po_I1, sp_push_len]
  · obtain ⟨i6, hi⟩ := sp_push_at hi
    refine sc_fr (C := fun z => z == 90) (h := a) ?_ (po_fr_trans (po_fr_I (by decide)) (po_fr_I (by decide))) (fun q hq => ?_)
    · rcases hi with ⟨h0, hS⟩ | ⟨k, hk, hS⟩
      · subst h0
        subst hS
        rw [show 95 + 31 * (((nx + 1) % 6 + 5 - 0) % 6) = 91 + 1 + 3 + 31 * nx by omega]
        exact e2 _ ok H
      · subst hk
        rw [show ((nx + 1) % 6 + 5 - (k + 1)) % 6 = (nx + 5 - k) % 6 by omega]
        refine sc_fr (h4 k S' hS) e5 (fun q hq => ?_)
        have hq' : 95 + 31 * ((nx + 5 - k) % 6) ≤ q ∧ q < 95 + 31 * ((nx + 5 - k) % 6) + 31 := of_decide_eq_true hq
        have hne : (nx + 5 - k) % 6 ≠ nx := by omega
        rw [po_in_no (by omega)]
        show (q == 94 || false) = false
        simp
        omega
    · have hq' : 95 + 31 * (((nx + 1) % 6 + 5 - i) % 6) ≤ q ∧ q < 95 + 31 * (((nx + 1) % 6 + 5 - i) % 6) + 31 := of_decide_eq_true hq
      show (q == 90) = false
      simp
      omega
  · refine po_fr_trans (po_fr_mono e5 (fun z hz => ?_)) (po_fr_trans (po_fr_I (by decide)) (po_fr_I (by decide)))
    have hz' : ¬ (90 ≤ z ∧ z < 281) := of_decide_eq_false hz
    rw [po_in_no (by omega)]
    show (z == 94 || false) = false
    simp
    omega
theorem pc_stepBack {S0 : sp_S} {U : List sp_S} {h : mm_H} (HU : sc_U (S0 :: U) h) (h6 : U.length < 6) (ok : sp_ok S0) :
    ∃ h', gX2_stepBack 21 h = some h' ∧ sc_U U h' ∧ sc_S S0 21 h' ∧ po_fr (fun z => z == 90 || po_in 21 z) h h' := by
  obtain ⟨nx, h1, h2, h3, h4⟩ := HU
  rw [List.length_cons] at h3
  unfold gX2_stepBack
  rw [h3, if_pos (po_0lt (by omega) (by omega)), h2, show (6 : Int32) = nI 6 from rfl, nI_add, nI_pred, pk_rem (by omega) (by decide) (by decide), Option.bind_some, po_I4 (by decide), h3, nI_pred, Option.bind_some]
  have ek : mh_I (ms_I (ms_I h 90 1 (nI ((nx + 5) % 6))) 90 2 (nI U.length)) 90 1 = nI ((nx + 5) % 6) := by rw [po_I4 (by decide), po_I1]
  rw [ek]
  obtain ⟨a, e1, e2, e3⟩ := pc_fetch (o := 91) (n := 6) (k := (nx + 5) % 6) (h := ms_I (ms_I h 90 1 (nI ((nx + 5) % 6))) 90 2 (nI U.length)) po_c91 (by decide) (by omega) (po_kd95 _ (by omega)) (by omega)
  rw [e1, Option.bind_some]
  have f2 : po_fr (fun z => z == 90) h (ms_I (ms_I h 90 1 (nI ((nx + 5) % 6))) 90 2 (nI U.length)) := po_fr_trans (po_fr_I (by decide)) (po_fr_I (by decide))
  have f3 : po_fr (fun z => z == 90 || po_in 21 z) h a := po_fr_trans (po_fr_mono f2 (fun z hz => (Bool.or_eq_false_iff.mp hz).1)) (po_fr_mono e3 (fun z hz => (Bool.or_eq_false_iff.mp hz).2))
  have hd : ∀ q, 95 ≤ q → (q == 90 || po_in 21 q) = false := fun q hq => by
    rw [po_in_no (by omega)]
    simp
    omega
  refine ⟨a, rfl, ⟨(nx + 5) % 6, by omega, ?_, ?_, fun i S' hi => ?_⟩, ?_, f3⟩
  · rw [e3.1 90 (po_in_no (by omega)), ek]
  · rw [e3.1 90 (po_in_no (by omega)), po_I1]
  · have hlen : i < U.length := by
      rcases Nat.lt_or_ge i U.length with hlt | hge
      · exact hlt
      · rw [List.getElem?_eq_none hge] at hi
        cases hi
    have := h4 (i + 1) S' hi
    rw [show (nx + 5 - (i + 1)) % 6 = ((nx + 5) % 6 + 5 - i) % 6 by omega] at this
    refine sc_fr this f3 (fun q hq => ?_)
    have hq' : 95 + 31 * (((nx + 5) % 6 + 5 - i) % 6) ≤ q ∧ q < 95 + 31 * (((nx + 5) % 6 + 5 - i) % 6) + 31 := of_decide_eq_true hq
    exact hd q (by omega)
  · refine e2 S0 ok (sc_fr (C := fun z => z == 90) ?_ f2 (fun q hq => ?_))
    · have := h4 0 S0 rfl
      exact this
    · have hq' : 91 + 1 + 3 + 31 * ((nx + 5) % 6) ≤ q ∧ q < 91 + 1 + 3 + 31 * ((nx + 5) % 6) + 31 := of_decide_eq_true hq
      show (q == 90) = false
      simp
      omega
/-! the reference -/
/-- only the blocks' array and the field of undoable steps -/
def pm_hf (h h' : mm_H) : Prop := po_fr (fun z => z == 352 || z == 353) h h' ∧ (∀ k, k ≠ 2 → mh_I h' 352 k = mh_I h 352 k)
theorem pm_hf_refl (h : mm_H) : pm_hf h h := ⟨po_fr_refl h, fun _ _ => rfl⟩
theorem pm_hf_trans {a b c : mm_H} (h1 : pm_hf a b) (h2 : pm_hf b c) : pm_hf a c := ⟨po_fr_trans h1.1 h2.1, fun k hk => (h2.2 k hk).trans (h1.2 k hk)⟩
theorem pm_hf_m {a b : mm_H} (h1 : po_fr po_m353 a b) : pm_hf a b := ⟨po_fr_mono h1 (fun _ hz => (Bool.or_eq_false_iff.mp hz).2), fun k _ => h1.1 352 (by decide) k⟩
theorem pm_hf_2 {a : mm_H} {v : Int32} : pm_hf a (ms_I a 352 2 v) := ⟨po_fr_I (by decide), fun k hk => po_I4 hk⟩
theorem pm_shift {u : Int32} {h : mm_H} : ∀ n i s, 1 ≤ i → i ≤ 6 → 6 - i < n → (∀ b, 1 ≤ b → b < i → ∀ j, j < 420 → mh_I s 353 (420 * b + j) = mh_I h 353 (420 * (b + 1) + j)) → (∀ a, (a < 420 ∨ 420 * i ≤ a) → mh_I s 353 a = mh_I h 353 a) → po_fr po_m353 h s →
    ∃ h', gX11_remember_L11 u n (nI i) s = (some (ms_I h' 352 2 (((mh_I h' 352 2) - 1)))).bind (fun (h11 : mm_H) => (some (ms_I h11 352 2 (((mh_I h11 352 2) + 1)))).bind (fun (h12 : mm_H) => (gX11_copyBlock u ((mh_I h12 352 2)) h12).bind (fun (h13 : mm_H) => some h13))) ∧
      (∀ b, 1 ≤ b → b < 6 → ∀ j, j < 420 → mh_I h' 353 (420 * b + j) = mh_I h 353 (420 * (b + 1) + j)) ∧ (∀ a, (a < 420 ∨ 2520 ≤ a) → mh_I h' 353 a = mh_I h 353 a) ∧ po_fr po_m353 h h' := by
  intro n
  induction n with
  | zero => intro i s _ _ h9; omega
  | succ n ih =>
    intro i s h1 hi hn hA hB hf
    rw [gX11_remember_L11]
    by_cases hlt : i < 6
    · obtain ⟨c, e1, e2, e3, e4⟩ := pm_copy (f := i + 1) (t := i) (h := s) (by omega) (by omega) (by omega)
      rw [if_pos (show nI i < 6 from nI_lt hlt (by decide)), nI_1, e1, Option.bind_some, Option.bind_some]
      refine ih (i + 1) c (by omega) (by omega) (by omega) (fun b hb1 hb j hj => ?_) (fun a ha => ?_) (po_fr_trans hf e4)
      · by_cases hbi : b = i
        · subst hbi
          rw [e2 j hj]
          exact hB _ (by omega)
        · rw [e3 _ (by omega)]
          exact hA b hb1 (by omega) j hj
      · rw [e3 a (by omega)]
        exact hB a (by omega)
    · have hi6 : i = 6 := by omega
      subst hi6
      rw [if_neg (show ¬ nI 6 < 6 by decide)]
      exact ⟨s, rfl, hA, hB, hf⟩
theorem pm_remember {C : sp_C} {S : sp_S} {U : List sp_S} {h : mm_H} (HC : sm_C C 0 h) (H : sm_S S 0 h) (okC : sp_cok C) (ok : sp_ok S) (HU : sm_U C U h) (h6 : U.length ≤ 6) (okU : ∀ S, S ∈ U → sp_ok S) :
    ∃ h', gX11_remember 0 h = some h' ∧ sm_U C (sp_push S U) h' ∧ pm_hf h h' ∧ (∀ a, (a < 420 ∨ 2940 ≤ a) → mh_I h' 353 a = mh_I h 353 a) := by
  unfold gX11_remember
  simp only [mm_jn]
  have hmem : ∀ {i : Nat} {S' : sp_S}, U[i]? = some S' → i < U.length ∧ sp_ok S' := fun {i S'} hi => by
    have hlen : i < U.length := by
      rcases Nat.lt_or_ge i U.length with hlt | hge
      · exact hlt
      · rw [List.getElem?_eq_none hge] at hi
        cases hi
    exact ⟨hlen, okU S' (List.mem_of_getElem? hi)⟩
  by_cases h5 : U.length = 6
  · rw [HU.1, h5, if_pos (show nI 6 = 6 from rfl)]
    obtain ⟨s, e1, e2, e3, e4⟩ := pm_shift (u := 0) (h := h) mm_F 1 h (by decide) (by decide) (by decide) (fun b h1 h2 => by omega) (fun _ _ => rfl) (po_fr_refl h)
    rw [show (1 : Int32) = nI 1 from rfl, e1, Option.bind_some, po_I1, Option.bind_some]
    have eu : mh_I s 352 2 = nI 6 := by rw [e4.1 352 (by decide) 2, HU.1, h5]
    rw [po_I1, eu, show nI 6 - 1 + 1 = nI 6 from rfl]
    obtain ⟨c, f1, f2, f3, f4⟩ := pm_copy (f := 0) (t := 6) (h := ms_I (ms_I s 352 2 (nI 6 - 1)) 352 2 (nI 6)) (by decide) (by decide) (by decide)
    rw [show (0 : Int32) = nI 0 from rfl, f1, Option.bind_some]
    have g3 : ∀ a, mh_I (ms_I (ms_I s 352 2 (nI 6 - 1)) 352 2 (nI 6)) 353 a = mh_I s 353 a := fun a => by rw [po_I3 (by decide), po_I3 (by decide)]
    refine ⟨c, rfl, ⟨?_, fun i S' hi => ?_⟩, pm_hf_trans (pm_hf_m e4) (pm_hf_trans pm_hf_2 (pm_hf_trans pm_hf_2 (pm_hf_m f4))), fun a ha => ?_⟩
    · rw [f4.1 352 (by decide) 2, po_I1, sp_push_len, h5]
      rfl
    · obtain ⟨i6, hi⟩ := sp_push_at hi
      have hl : (sp_push S U).length = 6 := by rw [sp_push_len, h5]; rfl
      rw [hl]
      rcases hi with ⟨h0, hS⟩ | ⟨k, hk, hS⟩
      · subst h0
        subst hS
        have hb : ∀ j, j < 420 → mh_I c 353 (420 * (6 - 0) + j) = mh_I h 353 (420 * 0 + j) := fun j hj => by
          rw [f2 j hj, g3, e3 _ (by omega)]
        exact ⟨sm_blk ok H hb, sm_C_blk okC HC hb⟩
      · subst hk
        obtain ⟨hl', okS⟩ := hmem hS
        obtain ⟨u1, u2⟩ := HU.2 k S' hS
        have hb : ∀ j, j < 420 → mh_I c 353 (420 * (6 - (k + 1)) + j) = mh_I h 353 (420 * (U.length - k) + j) := fun j hj => by
          rw [f3 _ (by omega), g3, e2 (6 - (k + 1)) (by omega) (by omega) j hj, h5]
          exact congrArg _ (by omega)
        exact ⟨sm_blk okS u1 hb, sm_C_blk okC u2 hb⟩
    · rw [f3 _ (by omega), g3, e3 a (by omega)]
  · rw [HU.1, if_neg (show ¬ nI U.length = 6 from fun z => h5 ((nI_eq (b := 6) (by omega) (by decide)).mp z)), Option.bind_some, po_I1, nI_1]
    obtain ⟨c, f1, f2, f3, f4⟩ := pm_copy (f := 0) (t := U.length + 1) (h := ms_I h 352 2 (nI (U.length + 1))) (by decide) (by omega) (by omega)
    rw [show (0 : Int32) = nI 0 from rfl, f1, Option.bind_some]
    have g3 : ∀ a, mh_I (ms_I h 352 2 (nI (U.length + 1))) 353 a = mh_I h 353 a := fun a => by rw [po_I3 (by decide)]
    have hl : (sp_push S U).length = U.length + 1 := by rw [sp_push_len]; omega
    refine ⟨c, rfl, ⟨?_, fun i S' hi => ?_⟩, pm_hf_trans pm_hf_2 (pm_hf_m f4), fun a ha => ?_⟩
    · rw [f4.1 352 (by decide) 2, po_I1, hl]
    · obtain ⟨i6, hi⟩ := sp_push_at hi
      rw [hl]
      rcases hi with ⟨h0, hS⟩ | ⟨k, hk, hS⟩
      · subst h0
        subst hS
        have hb : ∀ j, j < 420 → mh_I c 353 (420 * (U.length + 1 - 0) + j) = mh_I h 353 (420 * 0 + j) := fun j hj => by
          rw [show U.length + 1 - 0 = U.length + 1 from rfl, f2 j hj, g3]
        exact ⟨sm_blk ok H hb, sm_C_blk okC HC hb⟩
      · subst hk
        obtain ⟨hl', okS⟩ := hmem hS
        obtain ⟨u1, u2⟩ := HU.2 k S' hS
        have hb : ∀ j, j < 420 → mh_I c 353 (420 * (U.length + 1 - (k + 1)) + j) = mh_I h 353 (420 * (U.length - k) + j) := fun j hj => by
          rw [show U.length + 1 - (k + 1) = U.length - k by omega, f3 _ (by omega), g3]
        exact ⟨sm_blk okS u1 hb, sm_C_blk okC u2 hb⟩
    · rw [f3 _ (by omega), g3]
end PPW

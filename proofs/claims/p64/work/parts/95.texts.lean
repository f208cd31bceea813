section PPX2
/-! the state after the setup's text is made -/
variable {h h1 : mm_H} {g m n : Nat} {t : Nat → Nat}
theorem sz_D (W : sb_W h1 g m n t h) : (mh_n (ms_Z h g n) = 356 + g ∧ mh_c (ms_Z h g n) = 356 + g ∧ mh_w (ms_Z h g n) ≤ mh_w h1 + 2200) ∧ (mh_D (ms_Z h g n) (354 + g) 0 = 0 ∧ mh_D (ms_Z h g n) (354 + g) 1 = 13) ∧ (mh_D (ms_Z h g n) (355 + g) 0 = 3 ∧ mh_D (ms_Z h g n) (355 + g) 1 = n) := by
  obtain ⟨⟨w1, w2, w3⟩, -⟩ := W.1
  obtain ⟨nm, -, m7⟩ := W.2.1.2.1
  have e1 : ∀ p k, mh_D (ms_Z h g n) p k = if p = mh_n h + 1 then (if k = 0 then 3 else if k = 1 then n else 0) else if p = mh_n h then (if k = 0 then 0 else if k = 1 then 13 else 0) else mh_D h p k := fun _ _ => rfl
  refine ⟨⟨show mh_n h + 1 + 1 = 356 + g by omega, show mh_c h + 1 + 1 = 356 + g by omega, show mh_w h + 4 + n ≤ mh_w h1 + 2200 by omega⟩, ⟨?_, ?_⟩, ?_, ?_⟩
  · rw [e1, if_neg (by omega), if_pos (by omega), if_pos rfl]
  · rw [e1, if_neg (by omega), if_pos (by omega), if_neg (by decide), if_pos rfl]
  · rw [e1, if_pos (by omega), if_pos rfl]
  · rw [e1, if_pos (by omega), if_neg (by decide), if_pos rfl]
theorem sz_I (W : sb_W h1 g m n t h) : (∀ o, o < 352 → mh_I (ms_Z h g n) o = mh_I h1 o ∧ mh_R (ms_Z h g n) o = mh_R h1 o) ∧ mh_I (ms_Z h g n) (354 + g) 1 = 0 ∧ mh_R (ms_Z h g n) (354 + g) 0 = some (355 + g) ∧ ∀ j, j < n → mh_I (ms_Z h g n) (355 + g) j = sb_b (t j) := by
  have w1 := W.1.1.1
  have eI : ∀ p k, mh_I (ms_Z h g n) p k = if p = mh_n h + 1 then va_cpy (mh_I (ms_I (ms_K h 4 0 13) (354 + g) 1 0) (353 + g)) (mh_I (ms_I (ms_K h 4 0 13) (354 + g) 1 0) (mh_n h + 1)) 0 0 n k else (if p = 354 + g ∧ k = 1 then 0 else mh_I h p k) := fun _ _ => rfl
  have eR : ∀ p k, mh_R (ms_Z h g n) p k = if p = 354 + g ∧ k = 0 then some (355 + g) else mh_R h p k := fun _ _ => rfl
  refine ⟨fun o ho => ⟨funext fun k => ?_, funext fun k => ?_⟩, ?_, ?_, fun j hj => ?_⟩
  · rw [eI, if_neg (by omega), if_neg (fun z => by omega)]
    exact congrFun (W.2.2.1 o ho).1 k
  · rw [eR, if_neg (fun z => by omega)]
    exact congrFun (W.2.2.1 o ho).2 k
  · rw [eI, if_neg (by omega), if_pos ⟨rfl, rfl⟩]
  · rw [eR, if_pos ⟨rfl, rfl⟩]
  · rw [eI, if_pos (by omega), sb_cpy0 hj, sx_Io _ _ _ _ _ (by omega)]
    exact (W.2.1.2.2.1 j hj).2
theorem sz_T (W : sb_W h1 g m n t h) : tw_T (354 + g) n t (ms_Z h g n) := by
  obtain ⟨-, -, -, d4⟩ := sz_D W
  obtain ⟨-, i2, -, i4⟩ := sz_I W
  refine ⟨i2, ?_, fun j hj => ⟨(W.2.1.2.2.1 j hj).1, ?_⟩⟩
  · rw [show 354 + g + 1 = 355 + g by omega]
    exact d4
  · rw [show 354 + g + 1 = 355 + g by omega, i4 j hj]
    exact (sb_byte (t j) (W.2.1.2.2.1 j hj).1).1
/-- what stays from here on: numbers, kinds, references -/
def sz_q (h : mm_H) (g n : Nat) : mm_q := (356 + g, 7, mh_D (ms_Z h g n), mh_R (ms_Z h g n))
theorem sz_Sq (W : sb_W h1 g m n t h) (hq : mm_Sq (352, 7, mh_D h1, mh_R h1) h1) : mm_Sq (sz_q h g n) (ms_Z h g n) := by
  have g4 := sb_g4 W
  refine ⟨⟨show 352 ≤ 356 + g by omega, show 356 + g ≤ 400 by omega⟩, (sz_D W).1.1, fun o ho k hk t' ht => ?_, rfl, fun _ _ => rfl⟩
  rw [((sz_I W).1 o ho).2]
  exact hq.2.2.1 o ho k hk t' ht
theorem sz_Tx (W : sb_W h1 g m n t h) : mm_Tx (sz_q h g n) (354 + g) := by
  obtain ⟨-, d2, d3, d4⟩ := sz_D W
  obtain ⟨-, -, i3, -⟩ := sz_I W
  obtain ⟨nm, -, m7⟩ := W.2.1.2.1
  have e : 354 + g + 1 = 355 + g := by omega
  refine ⟨⟨show 352 ≤ 354 + g by omega, show 354 + g + 2 ≤ 356 + g by omega⟩, d2, ?_, ?_⟩
  · rw [e]
    exact ⟨d3, by rw [show (sz_q h g n).2.2.1 (355 + g) 1 = n from d4]; omega⟩
  · rw [e]
    exact i3
theorem mm_E2_w {τ : Type} {F F' G G' : mm_H → Prop} {M : mm_M} {pc : Nat} {L : List (Option Value)} {st : List Value} {h : mm_H} {o : Option τ} {lf : τ → mm_O} (hF : F h → F' h) (hG : ∀ h, G' h → G h) (k : mm_E2 F' G' M pc L st h o lf) : mm_E2 F G M pc L st h o lf := fun x hx hF0 => by
  obtain ⟨k1, k2, k3⟩ := k x hx (hF hF0)
  exact ⟨k1, hG _ k2, k3⟩
end PPX2

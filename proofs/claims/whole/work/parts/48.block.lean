section PPT
/-! the reference's blocks -/
theorem po_bI {a : Nat} (h : a < 4200) : mm_ibd (nI a) 4200 = true := po_ibd h (by decide)
theorem pm_ix (t k : Nat) : nI t * 420 + nI k = nI (420 * t + k) := by
  rw [show (420 : Int32) = nI 420 from rfl, pk_mul, nI_add, Nat.mul_comm]
theorem pm_copy {f t : Nat} {h : mm_H} (hf : f < 10) (ht : t < 10) (hn : f ≠ t) :
    ∃ h', gX11_copyBlock (nI f) (nI t) h = some h' ∧ (∀ j, j < 420 → mh_I h' 353 (420 * t + j) = mh_I h 353 (420 * f + j)) ∧ (∀ i, (i < 420 * t ∨ 420 * t + 420 ≤ i) → mh_I h' 353 i = mh_I h 353 i) ∧ po_fr po_m353 h h' := by
  unfold gX11_copyBlock
  refine po_loop (fun n i s => gX11_copyBlock_L2 (nI f) (nI t) n (nI i) s) 420 (fun k s => (∀ j, j < k → mh_I s 353 (420 * t + j) = mh_I h 353 (420 * f + j)) ∧ (∀ i, (i < 420 * t ∨ 420 * t + k ≤ i) → mh_I s 353 i = mh_I h 353 i) ∧ po_fr po_m353 h s) (fun h' => (∀ j, j < 420 → mh_I h' 353 (420 * t + j) = mh_I h 353 (420 * f + j)) ∧ (∀ i, (i < 420 * t ∨ 420 * t + 420 ≤ i) → mh_I h' 353 i = mh_I h 353 i) ∧ po_fr po_m353 h h') ?_ ?_ mm_F 0 h (by omega) (by decide) ⟨fun j hj => absurd hj (Nat.not_lt_zero _), fun _ _ => rfl, po_fr_refl _⟩
  · intro n s hs
    refine ⟨s, ?_, hs⟩
    show gX11_copyBlock_L2 (nI f) (nI t) (n + 1) (nI 420) s = _
    rw [gX11_copyBlock_L2, if_neg (show ¬ nI 420 < 420 by decide)]
  · intro n k s hk hs
    refine ⟨ms_I s 353 (420 * t + k) (mh_I s 353 (420 * f + k)), ⟨fun j hj => ?_, fun i hi => ?_, po_fr_trans hs.2.2 (po_fr_I (by decide))⟩, ?_⟩
    · by_cases hjk : j = k
      · subst hjk
        rw [po_I1]
        exact hs.2.1 _ (by omega)
      · rw [po_I4 (by omega)]
        exact hs.1 j (by omega)
    · rw [po_I4 (by omega)]
      exact hs.2.1 i (by omega)
    · show gX11_copyBlock_L2 (nI f) (nI t) (n + 1) (nI k) s = gX11_copyBlock_L2 (nI f) (nI t) n (nI (k + 1)) _
      rw [gX11_copyBlock_L2, if_pos (show nI k < 420 from nI_lt hk (by decide)), pm_ix, pm_ix, if_pos (po_bI (by omega)), if_pos (po_bI (by omega)), Option.bind_some, Option.bind_some, nI_1, nI_clamp (by omega), nI_clamp (by omega)]
/-- what a block says depends on its cells alone -/
theorem sm_blk {S : sp_S} {k k' : Nat} {h h' : mm_H} (ok : sp_ok S) (H : sm_S S k h) (hb : ∀ j, j < 420 → mh_I h' 353 (420 * k' + j) = mh_I h 353 (420 * k + j)) : sm_S S k' h' := by
  have hb' : ∀ j a c, j < 420 → a = 420 * k' + j → c = 420 * k + j → mh_I h' 353 a = mh_I h 353 c := fun j a c hj ha hc => by
    rw [ha, hc]
    exact hb j hj
  have n20 := ok.1.2.1
  have n10 := ok.1.2.2
  refine ⟨⟨?_, ?_, ?_⟩, fun b hb1 w hw => ?_, fun r hr => ⟨fun w hw => ?_, fun b hb1 => ?_⟩, fun p hp w hw => ?_⟩
  · rw [hb' 0 _ (420 * k) (by omega) (by omega) (by omega)]; exact H.1.1
  · rw [hb' 2 _ (420 * k + 2) (by omega) (by omega) (by omega)]; exact H.1.2.1
  · rw [hb' 3 _ (420 * k + 3) (by omega) (by omega) (by omega)]; exact H.1.2.2
  · rw [hb' (100 + 4 * b + w) _ (420 * k + 100 + 4 * b + w) (by omega) (by omega) (by omega)]; exact H.2.1 b hb1 w hw
  · rw [hb' (180 + 24 * r + w) _ (420 * k + 180 + 24 * r + w) (by omega) (by omega) (by omega)]; exact (H.2.2.1 r hr).1 w hw
  · rw [hb' (184 + 24 * r + b) _ (420 * k + 184 + 24 * r + b) (by omega) (by omega) (by omega)]; exact (H.2.2.1 r hr).2 b hb1
  · rw [hb' (12 + 12 * p + w) _ (420 * k + 12 + 12 * p + w) (by omega) (by omega) (by omega)]; exact H.2.2.2 p hp w hw
end PPT

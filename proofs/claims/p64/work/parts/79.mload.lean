section PQY
variable {T : sp_T} {h : mm_H} {C : sp_C} {S : sp_S} {A : sp_A}
theorem tm_px_fm {e : Bool} {a b : mm_H} (h : tm_px e a b) : po_fr po_fm a b := po_fr_mono h.1 (fun z hz => by
  have hz' : ¬ (352 ≤ z ∧ z < 358) := of_decide_eq_false hz
  unfold po_mm
  simp
  omega)
theorem sp_setup_ok (hs : sp_setup T = .inr (C, S)) (hl : T.1 ≤ 600) (hb : ∀ j, T.2 j < 256) : sp_cok C ∧ sp_ok S ∧ sp_dy S = 0 := by
  have H : sc_T T 1 (((0, 0, 0), (fun o k => if o = 1 then nI T.1 else nI (T.2 k)), (fun _ _ => none), (fun _ _ => 0), (fun _ _ => 0)) : mm_H) := ⟨rfl, fun j hj => by
    show nI (T.2 j) &&& 255 = nI (T.2 j)
    have := hb j
    rw [po_255, pk_tn (by omega), Nat.mod_eq_of_lt this]⟩
  rcases tc_setup H hl hb with ⟨C', S', s1, s2, s3, s4, _⟩ | ⟨e, s1, _⟩
  · rw [hs] at s1
    obtain ⟨rfl, rfl⟩ := Prod.mk.inj (Sum.inr.inj s1)
    exact ⟨s2, s3, s4⟩
  · rw [hs] at s1
    cases s1
end PQY

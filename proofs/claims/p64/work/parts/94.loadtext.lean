section PPW2
/-! load understands what the law said -/
variable {A : sp_A} {h h0 : mm_H}
theorem tx_in_at {L : List Nat} {T : sp_T} (I : tw_in (fun j => L.getD j 0) L.length L.length T) : tx_at T 0 L := by
  refine ⟨by rw [I.1, Nat.zero_add], fun j hj => ?_⟩
  rw [Nat.zero_add, I.2 j hj, tw_l, if_pos hj]
theorem tx_load {P B : Nat} (H : ra_c A h) (ok : sa_ok A) (hP0 : 0 < P) (hP : P ≤ 4) (hB : B ≤ 9) (I : tw_in (fun j => (tx_all h0 P B).getD j 0) (tx_all h0 P B).length (tx_all h0 P B).length (sa_T A)) :
    ∃ A' h1, gX10_load h = some (.inl (nI P), h1) ∧ ra_c A' h1 ∧ sa_ok A' ∧ sp_inv (sa_S A') ∧ sp_np (sa_C A') = P ∧ sp_dy (sa_S A') = 0 ∧ po_fw po_fc h h1 := by
  obtain ⟨C, S, e1, e2, e3⟩ := tx_setup (T := sa_T A) (f := fun k => lp h0 (2 + k) 40) (g := fun k => lp h0 (7 + k) 268435456) hP0 (show P ≤ 8 by omega) hB (fun k => Nat.lt_of_lt_of_le (lp_lt (by decide)) (by decide)) (tx_in_at I)
  rcases oc_load H ok with ⟨C', S', g1, g2, g3, g4, h1, g5, g6, g7⟩ | ⟨e, g1, -⟩
  · rw [e1] at g1
    have hCS := Sum.inr.inj g1
    have hC : C = C' := congrArg (fun z => z.1) hCS
    have hS : S = S' := congrArg (fun z => z.2) hCS
    rw [← hC] at g2 g5 g6
    rw [← hS] at g3 g4 g6
    rw [e2] at g5
    exact ⟨sa_load A C S, h1, g5, g6, sa_load_ok ok g2 g3 g4, e3, e2, g4, g7⟩
  · rw [e1] at g1
    cases g1
end PPW2

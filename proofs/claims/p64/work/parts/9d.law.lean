section PRO9
/-! the law from its first state on -/
variable {J : Nat → Nat → Int64} {D : Nat → Nat → Nat} {I : Nat → Nat → Int32}
theorem lw_law (hz : ∀ o k, o < 400 → I o k = 0) : ∃ h', mm_E2 mm_K (fun _ => True) mL_law 0 [some (.ref 400), none, none, none, none, none, none, none, none, none, none, none, none, none] [] (ez_t J D I ez_0) (some ((.inl true, h') : (Bool ⊕ String) × mm_H)) lf_zt ∧ mh_c h' ≤ 400 ∧ mh_w h' ≤ 22600 := by
  obtain ⟨h3, e1, e2, e3, -, -, e6, e7⟩ := lt_X10 (J := J) (D := D) (I := I) (fun o k ho => hz o k (by omega))
  obtain ⟨n1, n2, n3, n4⟩ := ez_A_1
  have en : mh_n h3 = 352 := by
    show h3.1.1 = 352
    rw [e2]
    exact n1
  have ec : mh_c h3 = 352 := by
    show h3.1.2.1 = 352
    rw [e2]
    exact n2
  have ew : mh_w h3 ≤ 20000 := by
    show h3.1.2.2 ≤ 20000
    rw [e2]
    exact n3
  obtain ⟨h', k1, k2, k3⟩ := lw_body (h0 := ez_t J D I ez_0) (h1 := h3) rfl e1 ⟨en, ec⟩ (mm_chk_ez e2 e3 n4) (fun o h1 h2 k => (e6 o h1 k).trans (hz o k h2)) e7 lt_Aok
  exact ⟨h', k1, k2, by omega⟩
end PRO9

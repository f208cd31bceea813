section PPY
/-! questions -/
def lc_1 (E1 : String) (E : String) : Option Int32 := if E = E1 then some 1 else none
def lc_2 (E1 E2 : String) (E : String) : Option Int32 := if E = E1 then some 1 else if E = E2 then some 2 else none
def lc_3 (E1 E2 E3 : String) (E : String) : Option Int32 := if E = E1 then some 1 else if E = E2 then some 2 else if E = E3 then some 3 else none
theorem lc_1a {E : String} : lc_1 E E = some 1 := if_pos rfl
theorem lc_2a {E F : String} : lc_2 E F E = some 1 := if_pos rfl
theorem lc_2b : lc_2 po_IO po_IA po_IA = some 2 := by decide
theorem lc_2s : lc_2 po_IO po_IS po_IS = some 2 := by decide
theorem lc_2i : lc_2 po_IA po_IS po_IS = some 2 := by decide
theorem lc_3a {E F G : String} : lc_3 E F G E = some 1 := if_pos rfl
theorem lc_3b : lc_3 po_IO po_IA po_IS po_IA = some 2 := by decide
theorem lc_3c : lc_3 po_IO po_IA po_IS po_IS = some 3 := by decide
variable {A : sp_A} {S : sp_S} {h : mm_H}
theorem po_k21 : mm_kd 21 = (0, 7) := by decide +kernel
theorem po_c19 : mm_cap 19 = 8 := by decide +kernel
theorem po_c17 : mm_cap 17 = 8 := by decide +kernel
theorem po_c15 : mm_cap 15 = 48 := by decide +kernel
theorem pc_min (H : ra_c A h) (ok : sa_ok A) {p : Nat} (hp : p < sp_np (sa_C A)) : gX4_get 19 (nI p) h = some (nI (sp_mn (sa_C A) p)) := by
  have h8 := ok.1.1.1
  rw [po_get (by rw [po_c19]; omega) (by decide +kernel)]
  exact congrArg some (H.1.1.2 p hp).2.2
theorem pc_len (H : ra_c A h) (ok : sa_ok A) {p : Nat} (hp : p < sp_np (sa_C A)) : gX4_get 17 (nI p) h = some (nI (sp_nl (sa_C A) p)) := by
  have h8 := ok.1.1.1
  rw [po_get (by rw [po_c17]; omega) (by decide +kernel)]
  exact congrArg some (H.1.1.2 p hp).1
theorem pc_acc (H : ra_c A h) {p k : Nat} (hp : p < 8) (hk : k = 21 ∨ k = 23 ∨ k = 25 ∨ k = 27 ∨ k = 29) : gX4_get (21 + k) (nI p) h = some (mh_I h (21 + k + 1) p) := by
  obtain ⟨_, _, c21, c23, c25, c27, c29⟩ := po_cap7 po_k21
  rcases hk with rfl | rfl | rfl | rfl | rfl
  · exact po_get (by rw [c21]; exact hp) (by rw [c21]; decide)
  · exact po_get (by rw [c23]; exact hp) (by rw [c23]; decide)
  · exact po_get (by rw [c25]; exact hp) (by rw [c25]; decide)
  · exact po_get (by rw [c27]; exact hp) (by rw [c27]; decide)
  · exact po_get (by rw [c29]; exact hp) (by rw [c29]; decide)
end PPY

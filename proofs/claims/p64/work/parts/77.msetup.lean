section PQW
/-! setup texts on the reference -/
variable {T : sp_T} {h : mm_H} {t : sp_K} {C : sp_C} {S : sp_S} {A : sp_A}
def po_mm (z : Nat) : Bool := z == 352 || z == 353
/-- where a parse goes: tokens, block 0, and, if something is wrong, the error -/
def tm_px (e : Bool) (h h' : mm_H) : Prop := po_fr po_mm h h' ∧ (∀ k, (k < 5 ∨ (6 < k ∧ k < 10) ∨ 13 < k ∨ (e = false ∧ k < 10)) → mh_I h' 352 k = mh_I h 352 k) ∧ ∀ k, 420 ≤ k → mh_I h' 353 k = mh_I h 353 k
theorem tm_px_trans {e : Bool} {a b c : mm_H} (h1 : tm_px e a b) (h2 : tm_px e b c) : tm_px e a c := ⟨po_fr_trans h1.1 h2.1, fun k hk => (h2.2.1 k hk).trans (h1.2.1 k hk), fun k hk => (h2.2.2 k hk).trans (h1.2.2 k hk)⟩
theorem tm_px_refl {e : Bool} (h : mm_H) : tm_px e h h := ⟨po_fr_refl h, fun _ _ => rfl, fun _ _ => rfl⟩
theorem tm_px_t {e : Bool} {a b : mm_H} (h : tm_fr a b) : tm_px e a b := ⟨po_fr_mono h.1 (fun z hz => (Bool.or_eq_false_iff.mp hz).1), fun k hk => h.2 k (by rcases hk with h | h | h | h <;> omega), fun k _ => h.1.1 353 (by decide) k⟩
theorem tm_px_e {a b : mm_H} (h : tm_ef a b) : tm_px true a b := ⟨po_fr_mono h.1 (fun z hz => (Bool.or_eq_false_iff.mp hz).1), fun k hk => h.2 k (by rcases hk with h | h | h | h <;> first | omega | exact absurd h.1 (by decide)), fun k _ => h.1.1 353 (by decide) k⟩
theorem tm_px_w {a b : mm_H} (h : tm_px false a b) : tm_px true a b := ⟨h.1, fun k hk => h.2.1 k (by rcases hk with h | h | h | h <;> first | omega | exact absurd h.1 (by decide)), h.2.2⟩
theorem tm_px_I {e : Bool} {k : Nat} {v : Int32} (hk : k < 420) : tm_px e h (ms_I h 353 k v) := ⟨po_fr_I (by decide), fun j _ => po_I3 (by decide), fun j hj => po_I4 (by omega)⟩
theorem tm_px_x {e : Bool} {a b : mm_H} (h : po_fx a b) : tm_px e a b := ⟨po_fr_mono h.1 (fun z hz => (Bool.or_eq_false_iff.mp hz).2), fun k _ => h.1.1 352 (by decide) k, fun k hk => h.2 k (decide_eq_true (Or.inl hk))⟩
theorem sp_w33 (t : sp_K) : sp_isw T t 33 = sp_isw T t 7 := sp_isw_eq (by decide) (by decide)
theorem sp_w32 (t : sp_K) : sp_isw T t 32 = sp_isw T t 6 := sp_isw_eq (by decide) (by decide)
theorem sp_w31 (t : sp_K) : sp_isw T t 31 = sp_isw T t 5 := sp_isw_eq (by decide) (by decide)
end PQW

section PQR
/-! tokens on the reference -/
variable {T : sp_T} {h : mm_H} {c : Nat → Bool} {i j s : Nat}
def tm_tok (t : sp_K) (h : mm_H) : Prop := mh_I h 352 11 = nI (sk_k t) ∧ mh_I h 352 12 = nI (sk_s t) ∧ mh_I h 352 10 = nI (sk_e t) ∧ (sk_k t = 2 → mh_I h 352 13 = nI (sk_v t))
def po_352 (z : Nat) : Bool := z == 352
def tm_fr (h h' : mm_H) : Prop := po_fr po_352 h h' ∧ ∀ k, (k < 10 ∨ 13 < k) → mh_I h' 352 k = mh_I h 352 k
theorem tm_fr_refl (h : mm_H) : tm_fr h h := ⟨po_fr_refl h, fun _ _ => rfl⟩
theorem tm_fr_trans {a b c : mm_H} (h1 : tm_fr a b) (h2 : tm_fr b c) : tm_fr a c := ⟨po_fr_trans h1.1 h2.1, fun k hk => (h2.2 k hk).trans (h1.2 k hk)⟩
theorem tm_fr_I {k : Nat} {v : Int32} (hk : ¬ (k < 10 ∨ 13 < k)) : tm_fr h (ms_I h 352 k v) := ⟨po_fr_I (by decide), fun j hj => po_I4 (by omega)⟩
end PQR

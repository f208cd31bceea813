section PPV
/-! the whole state: catalog, stock, changes to undo (newest first), saved stocks, texts, error -/
abbrev sp_C : Type := Nat × (Nat → Nat) × (Nat → Nat → Nat) × (Nat → Nat)
def sp_np (C : sp_C) : Nat := C.1
def sp_nl (C : sp_C) (p : Nat) : Nat := C.2.1 p
def sp_lt (C : sp_C) (p j : Nat) : Nat := C.2.2.1 p j
def sp_mn (C : sp_C) (p : Nat) : Nat := C.2.2.2 p
def sp_cok (C : sp_C) : Prop := sp_np C ≤ 8 ∧ ∀ p, p < sp_np C → sp_nl C p ≤ 6 ∧ sp_mn C p ≤ 999 ∧ ∀ j, sp_lt C p j < 256
/-- a text: length and bytes -/
abbrev sp_T : Type := Nat × (Nat → Nat)
abbrev sp_A : Type := (sp_C × sp_S) × (List sp_S × (Nat → Option sp_S)) × (sp_T × sp_T) × (Nat × Int32)
def sa_C (A : sp_A) : sp_C := A.1.1
def sa_S (A : sp_A) : sp_S := A.1.2
def sa_U (A : sp_A) : List sp_S := A.2.1.1
def sa_V (A : sp_A) : Nat → Option sp_S := A.2.1.2
def sa_T (A : sp_A) : sp_T := A.2.2.1.1
def sa_W (A : sp_A) : sp_T := A.2.2.1.2
def sa_ec (A : sp_A) : Nat := A.2.2.2.1
def sa_ep (A : sp_A) : Int32 := A.2.2.2.2
/-- the class's catalog o -/
def sc_C (C : sp_C) (o : Nat) (h : mm_H) : Prop := mh_I h o 0 = nI (sp_np C) ∧ ∀ p, p < sp_np C → mh_I h (o + 4) p = nI (sp_nl C p) ∧ (∀ j, j < sp_nl C p → mh_I h (o + 2) (6 * p + j) = nI (sp_lt C p j)) ∧ mh_I h (o + 6) p = nI (sp_mn C p)
/-- the class's history -/
def sc_U (U : List sp_S) (h : mm_H) : Prop := ∃ nx, nx < 6 ∧ mh_I h 90 1 = nI nx ∧ mh_I h 90 2 = nI U.length ∧ ∀ i S, U[i]? = some S → sc_S S (95 + 31 * ((nx + 5 - i) % 6)) h
/-- saved stocks -/
def sc_V (V : Nat → Option sp_S) (h : mm_H) : Prop := ∀ k, k < 2 → (mh_I h 284 k = 1 ↔ (V k).isSome = true) ∧ ∀ S, V k = some S → sc_S S (285 + 31 * k) h
/-- the class's text o -/
def sc_T (T : sp_T) (o : Nat) (h : mm_H) : Prop := mh_I h o 1 = nI T.1 ∧ ∀ j, j < T.1 → mh_I h (o + 1) j &&& 255 = nI (T.2 j)
/-- no day beyond 9999 -/
def sa_d9 (A : sp_A) : Prop := sp_dy (sa_S A) ≤ 9999 ∧ (∀ S, S ∈ sa_U A → sp_dy S ≤ 9999) ∧ ∀ k S, sa_V A k = some S → sp_dy S ≤ 9999
def sa_ok (A : sp_A) : Prop := (sp_cok (sa_C A) ∧ sp_ok (sa_S A)) ∧ ((sa_U A).length ≤ 6 ∧ ∀ S, S ∈ sa_U A → sp_ok S) ∧ (∀ k S, sa_V A k = some S → sp_ok S) ∧ ((sa_T A).1 ≤ 600 ∧ ∀ j, (sa_T A).2 j < 256) ∧ ((sa_W A).1 ≤ 199 ∧ ∀ j, (sa_W A).2 j < 256) ∧ True ∧ sa_d9 A
/-- the class holds A -/
def ra_c (A : sp_A) (h : mm_H) : Prop := (sc_C (sa_C A) 14 h ∧ sc_S (sa_S A) 21 h) ∧ (sc_U (sa_U A) h ∧ sc_V (sa_V A) h) ∧ (sc_T (sa_T A) 1 h ∧ sc_T (sa_W A) 3 h) ∧ mh_I h 5 1 = nI (sa_ec A) ∧ mh_I h 5 2 = sa_ep A
/-- frames of the two sides -/
def po_fc (q : Nat) : Bool := decide (q < 352)
def po_fm (q : Nat) : Bool := decide (352 ≤ q ∧ q < 358)
theorem sc_C_fr {C : sp_C} {o : Nat} {h h' : mm_H} {D : Nat → Bool} (H : sc_C C o h) (hf : po_fr D h h') (h0 : D o = false) (h2 : D (o + 2) = false) (h4 : D (o + 4) = false) (h6 : D (o + 6) = false) : sc_C C o h' :=
  ⟨(hf.1 o h0 0).trans H.1, fun p hp => ⟨(hf.1 _ h4 p).trans (H.2 p hp).1, fun j hj => (hf.1 _ h2 _).trans ((H.2 p hp).2.1 j hj), (hf.1 _ h6 p).trans (H.2 p hp).2.2⟩⟩
theorem sc_T_fr {T : sp_T} {o : Nat} {h h' : mm_H} {D : Nat → Bool} (H : sc_T T o h) (hf : po_fr D h h') (h0 : D o = false) (h1 : D (o + 1) = false) : sc_T T o h' :=
  ⟨(hf.1 o h0 1).trans H.1, fun j hj => by rw [hf.1 _ h1 j]; exact H.2 j hj⟩
theorem po_in_no {o q : Nat} (h : q < o ∨ o + 31 ≤ q) : po_in o q = false := decide_eq_false (by omega)
theorem sc_U_fr {U : List sp_S} {h h' : mm_H} {D : Nat → Bool} (H : sc_U U h) (hf : po_fr D h h') (h0 : ∀ q, 90 ≤ q → q < 281 → D q = false) : sc_U U h' := by
  obtain ⟨nx, h1, h2, h3, h4⟩ := H
  refine ⟨nx, h1, (hf.1 90 (h0 90 (by decide) (by decide)) 1).trans h2, (hf.1 90 (h0 90 (by decide) (by decide)) 2).trans h3, fun i S hi => sc_fr (h4 i S hi) hf (fun q hq => ?_)⟩
  have hq' : 95 + 31 * ((nx + 5 - i) % 6) ≤ q ∧ q < 95 + 31 * ((nx + 5 - i) % 6) + 31 := of_decide_eq_true hq
  exact h0 q (by omega) (by omega)
theorem sc_V_fr {V : Nat → Option sp_S} {h h' : mm_H} {D : Nat → Bool} (H : sc_V V h) (hf : po_fr D h h') (h0 : ∀ q, 284 ≤ q → q < 347 → D q = false) : sc_V V h' := fun k hk => by
  obtain ⟨h1, h2⟩ := H k hk
  refine ⟨by rw [hf.1 284 (h0 284 (by decide) (by decide)) k]; exact h1, fun S hS => sc_fr (h2 S hS) hf (fun q hq => ?_)⟩
  have hq' : 285 + 31 * k ≤ q ∧ q < 285 + 31 * k + 31 := of_decide_eq_true hq
  exact h0 q (by omega) (by omega)
theorem ra_c_fr {A : sp_A} {h h' : mm_H} {D : Nat → Bool} (H : ra_c A h) (hf : po_fr D h h') (h0 : ∀ q, q < 347 → D q = false) : ra_c A h' := by
  obtain ⟨⟨h1, h2⟩, ⟨h3, h4⟩, ⟨h5, h6⟩, h7, h8⟩ := H
  refine ⟨⟨sc_C_fr h1 hf (h0 _ (by decide)) (h0 _ (by decide)) (h0 _ (by decide)) (h0 _ (by decide)), sc_fr h2 hf (fun q hq => ?_)⟩, ⟨sc_U_fr h3 hf (fun q _ hq => h0 q (by omega)), sc_V_fr h4 hf (fun q _ hq => h0 q hq)⟩, ⟨sc_T_fr h5 hf (h0 _ (by decide)) (h0 _ (by decide)), sc_T_fr h6 hf (h0 _ (by decide)) (h0 _ (by decide))⟩, (hf.1 5 (h0 _ (by decide)) 1).trans h7, (hf.1 5 (h0 _ (by decide)) 2).trans h8⟩
  have hq' : 21 ≤ q ∧ q < 21 + 31 := of_decide_eq_true hq
  exact h0 q (by omega)
/-- counters and other arrays do not matter -/
theorem ra_c_X {A : sp_A} {h h' : mm_H} (H : ra_c A h) (hI : mh_I h' = mh_I h) : ra_c A h' := by
  have := ra_c_fr (D := fun _ => false) (h' := (h.1, mh_I h', mh_R h, mh_J h, mh_D h)) H ⟨fun o _ k => by show mh_I h' o k = _; rw [hI], rfl, rfl, rfl, rfl⟩ (fun _ _ => rfl)
  exact this
end PPV

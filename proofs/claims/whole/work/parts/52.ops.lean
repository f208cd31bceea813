section PPX
/-! calls: what both sides check first -/
def po_out (x : Int32) (n : Nat) : Prop := x < 0 ∨ ¬ x < nI n
theorem po_cs (x : Int32) {n : Nat} (hn : n < 2 ^ 31) : (∃ p, p < n ∧ x = nI p) ∨ po_out x n := by
  rcases pk_ix x hn with h | h | ⟨j, h1, h2⟩
  · exact Or.inr (Or.inl h)
  · exact Or.inr (Or.inr (Int32.not_lt.mpr h))
  · exact Or.inl ⟨j, h1, h2⟩
/-- a number out of a range -/
def po_no (x : Int32) (a b : Nat) : Prop := x < nI a ∨ nI b < x
theorem po_cr (x : Int32) {a b : Nat} (hb : b + 1 < 2 ^ 31) (hab : a ≤ b + 1) : (∃ q, a ≤ q ∧ q ≤ b ∧ x = nI q) ∨ po_no x a b := by
  rcases pk_ix x hb with h | h | ⟨j, h1, h2⟩
  · refine Or.inr (Or.inl ?_)
    rcases Nat.eq_zero_or_pos a with h0 | h0
    · rw [h0]
      exact h
    · exact Int32.lt_trans h (po_0lt h0 (by omega))
  · exact Or.inr (Or.inr (Int32.lt_of_lt_of_le (nI_lt (Nat.lt_succ_self b) hb) h))
  · rcases Nat.lt_or_ge j a with h3 | h3
    · subst h2
      exact Or.inr (Or.inl (nI_lt h3 (by omega)))
    · exact Or.inl ⟨j, h3, by omega, h2⟩
theorem po_outside_in {x y z : Int32} {a b q : Nat} {h : mm_H} (ha : a ≤ q) (hb : q ≤ b) (hb2 : b < 2 ^ 31) (hx : x = nI q) (hy : y = nI a) (hz : z = nI b) : gX10_isOutside x y z h = some false := by
  unfold gX10_isOutside
  rw [hx, hy, hz, if_neg (nI_nlt ha (by omega)), if_neg (nI_nlt hb hb2)]
theorem po_outside_no {x y z : Int32} {a b : Nat} {h : mm_H} (hn : po_no x a b) (hy : y = nI a) (hz : z = nI b) : gX10_isOutside x y z h = some true := by
  unfold gX10_isOutside
  rw [hy, hz]
  rcases hn with h1 | h1
  · rw [if_pos h1]
  · by_cases h2 : x < nI a
    · rw [if_pos h2]
    · rw [if_neg h2, if_pos h1]
theorem po_in_in {x y z : Int32} {a b q : Nat} {h : mm_H} (ha : a ≤ q) (hb : q ≤ b) (hb2 : b < 2 ^ 31) (hx : x = nI q) (hy : y = nI a) (hz : z = nI b) : gX11_in x y z h = some true := by
  unfold gX11_in
  rw [hx, hy, hz, if_neg (nI_nlt ha (by omega)), if_neg (nI_nlt hb hb2)]
theorem po_in_no' {x y z : Int32} {a b : Nat} {h : mm_H} (hn : po_no x a b) (hy : y = nI a) (hz : z = nI b) : gX11_in x y z h = some false := by
  unfold gX11_in
  rw [hy, hz]
  rcases hn with h1 | h1
  · rw [if_pos h1]
  · by_cases h2 : x < nI a
    · rw [if_pos h2]
    · rw [if_neg h2, if_pos h1]
/-- an index against a count -/
theorem po_outside_ix {j n : Nat} {h : mm_H} (hj : j < n) (hn : n < 2 ^ 31) : gX10_isOutside (nI j) 0 (nI n - 1) h = some false := by
  obtain ⟨m, rfl⟩ : ∃ m, n = m + 1 := ⟨n - 1, by omega⟩
  exact po_outside_in (a := 0) (b := m) (Nat.zero_le _) (by omega) (by omega) rfl rfl (nI_pred m)
theorem po_ix_no {x : Int32} {n : Nat} (hn : n < 2 ^ 31) (ho : po_out x n) : x < 0 ∨ nI n - 1 < x := by
  rcases ho with h1 | h1
  · exact Or.inl h1
  · by_cases h0 : x < 0
    · exact Or.inl h0
    · refine Or.inr ?_
      cases n with
      | zero => exact Int32.lt_of_lt_of_le (show nI 0 - 1 < 0 by decide) (Int32.not_lt.mp h0)
      | succ m =>
        rw [nI_pred]
        exact Int32.lt_of_lt_of_le (nI_lt (Nat.lt_succ_self m) hn) (Int32.not_lt.mp h1)
theorem po_outside_out {x : Int32} {n : Nat} {h : mm_H} (hn : n < 2 ^ 31) (ho : po_out x n) : gX10_isOutside x 0 (nI n - 1) h = some true := by
  unfold gX10_isOutside
  rcases po_ix_no hn ho with h1 | h1
  · rw [if_pos h1]
  · by_cases h2 : x < 0
    · rw [if_pos h2]
    · rw [if_neg h2, if_pos h1]
theorem po_in_ix {j n : Nat} {h : mm_H} (hj : j < n) (hn : n < 2 ^ 31) : gX11_in (nI j) 0 (nI n - 1) h = some true := by
  obtain ⟨m, rfl⟩ : ∃ m, n = m + 1 := ⟨n - 1, by omega⟩
  exact po_in_in (a := 0) (b := m) (Nat.zero_le _) (by omega) (by omega) rfl rfl (nI_pred m)
theorem po_in_out {x : Int32} {n : Nat} {h : mm_H} (hn : n < 2 ^ 31) (ho : po_out x n) : gX11_in x 0 (nI n - 1) h = some false := by
  unfold gX11_in
  rcases po_ix_no hn ho with h1 | h1
  · rw [if_pos h1]
  · by_cases h2 : x < 0
    · rw [if_pos h2]
    · rw [if_neg h2, if_pos h1]
theorem po_fails_0 {h : mm_H} : gX11_fails 0 0 0 h = some (false, ms_I h 352 9 0) := by
  unfold gX11_fails
  dsimp only [mm_jn]
  rw [if_pos rfl, if_pos rfl, if_pos rfl, Option.bind_some, po_I1, if_neg (by decide)]
theorem po_fails_1 {a b : Int32} {h : mm_H} : gX11_fails 1 a b h = some (true, ms_I h 352 9 1) := by
  unfold gX11_fails
  dsimp only [mm_jn]
  rw [if_neg (by decide), Option.bind_some, po_I1, if_pos (by decide)]
theorem po_fails_2 {b : Int32} {h : mm_H} : gX11_fails 0 1 b h = some (true, ms_I h 352 9 2) := by
  unfold gX11_fails
  dsimp only [mm_jn]
  rw [if_pos rfl, if_neg (by decide), Option.bind_some, po_I1, if_pos (by decide)]
theorem po_fails_3 {h : mm_H} : gX11_fails 0 0 1 h = some (true, ms_I h 352 9 3) := by
  unfold gX11_fails
  dsimp only [mm_jn]
  rw [if_pos rfl, if_pos rfl, if_neg (by decide), Option.bind_some, po_I1, if_pos (by decide)]
variable {A : sp_A} {h : mm_H}
abbrev po_IO : String := "java/lang/IndexOutOfBoundsException"
abbrev po_IA : String := "java/lang/IllegalArgumentException"
abbrev po_IS : String := "java/lang/IllegalStateException"
theorem pc_ckP (H : ra_c A h) (ok : sa_ok A) {p : Nat} (hp : p < sp_np (sa_C A)) : gX10_checkProduct (nI p) h = some (.inl (), h) := by
  unfold gX10_checkProduct gX1_hasProduct
  have h8 := ok.1.1.1
  rw [H.1.1.1, if_neg (nI_pos (by omega)), if_pos (nI_lt hp (by omega)), Option.bind_some, if_pos rfl]
theorem pc_ckPn (H : ra_c A h) {x : Int32} (hx : po_out x (sp_np (sa_C A))) : gX10_checkProduct x h = some (.inr po_IO, ms_X h) := by
  unfold gX10_checkProduct gX1_hasProduct
  rw [H.1.1.1]
  by_cases h1 : x < 0
  · rw [if_pos h1, Option.bind_some, if_neg (by decide)]
  · rw [if_neg h1, if_neg (hx.resolve_left h1), Option.bind_some, if_neg (by decide)]
theorem pc_ckB (H : ra_c A h) (ok : sa_ok A) {b : Nat} (hb : b < sp_nb (sa_S A)) : gX10_checkBatch (nI b) h = some (.inl (), h) := by
  unfold gX10_checkBatch gX7_hasBatch
  have h8 := ok.1.2.1.2.1
  rw [H.1.2.1.2.1, if_neg (nI_pos (by omega)), if_pos (nI_lt hb (by omega)), Option.bind_some, if_pos rfl]
theorem pc_ckBn (H : ra_c A h) {x : Int32} (hx : po_out x (sp_nb (sa_S A))) : gX10_checkBatch x h = some (.inr po_IO, ms_X h) := by
  unfold gX10_checkBatch gX7_hasBatch
  rw [H.1.2.1.2.1]
  by_cases h1 : x < 0
  · rw [if_pos h1, Option.bind_some, if_neg (by decide)]
  · rw [if_neg h1, if_neg (hx.resolve_left h1), Option.bind_some, if_neg (by decide)]
theorem pc_ckR (H : ra_c A h) (ok : sa_ok A) {r : Nat} (hr : r < sp_nr (sa_S A)) : gX10_checkReservation (nI r) h = some (.inl (), h) := by
  unfold gX10_checkReservation gX7_hasReservation
  have h8 := ok.1.2.1.2.2
  rw [H.1.2.1.2.2, if_neg (nI_pos (by omega)), if_pos (nI_lt hr (by omega)), Option.bind_some, if_pos rfl]
theorem pc_ckRn (H : ra_c A h) {x : Int32} (hx : po_out x (sp_nr (sa_S A))) : gX10_checkReservation x h = some (.inr po_IO, ms_X h) := by
  unfold gX10_checkReservation gX7_hasReservation
  rw [H.1.2.1.2.2]
  by_cases h1 : x < 0
  · rw [if_pos h1, Option.bind_some, if_neg (by decide)]
  · rw [if_neg h1, if_neg (hx.resolve_left h1), Option.bind_some, if_neg (by decide)]
theorem pc_ckI {x y z : Int32} {a b q : Nat} (ha : a ≤ q) (hb : q ≤ b) (hb2 : b < 2 ^ 31) (hx : x = nI q) (hy : y = nI a) (hz : z = nI b) : gX10_checkRange x y z h = some (.inl (), h) := by
  unfold gX10_checkRange
  rw [po_outside_in ha hb hb2 hx hy hz, Option.bind_some, if_neg (by decide)]
theorem pc_ckIn {x y z : Int32} {a b : Nat} (hn : po_no x a b) (hy : y = nI a) (hz : z = nI b) : gX10_checkRange x y z h = some (.inr po_IA, ms_X h) := by
  unfold gX10_checkRange
  rw [po_outside_no hn hy hz, Option.bind_some, if_pos rfl]
theorem pm_isP (H : ra_m A h) (ok : sa_ok A) {p : Nat} (hp : p < sp_np (sa_C A)) : gX11_isProduct (nI p) h = some true := by
  unfold gX11_isProduct
  have h8 := ok.1.1.1
  have e : mh_I h 353 (Int32.toNatClampNeg 1) = nI (sp_np (sa_C A)) := H.1.1.1
  rw [if_pos po_m1, e, po_in_ix hp (by omega), Option.bind_some]
theorem pm_isPn (H : ra_m A h) (ok : sa_ok A) {x : Int32} (hx : po_out x (sp_np (sa_C A))) : gX11_isProduct x h = some false := by
  unfold gX11_isProduct
  have h8 := ok.1.1.1
  have e : mh_I h 353 (Int32.toNatClampNeg 1) = nI (sp_np (sa_C A)) := H.1.1.1
  rw [if_pos po_m1, e, po_in_out (by omega) hx, Option.bind_some]
theorem pm_isB (H : ra_m A h) (ok : sa_ok A) {p : Nat} (hp : p < sp_nb (sa_S A)) : gX11_isBatch (nI p) h = some true := by
  unfold gX11_isBatch
  have h8 := ok.1.2.1.2.1
  rw [if_pos po_m2, pm_nb H.1.2, po_in_ix hp (by omega), Option.bind_some]
theorem pm_isBn (H : ra_m A h) (ok : sa_ok A) {x : Int32} (hx : po_out x (sp_nb (sa_S A))) : gX11_isBatch x h = some false := by
  unfold gX11_isBatch
  have h8 := ok.1.2.1.2.1
  rw [if_pos po_m2, pm_nb H.1.2, po_in_out (by omega) hx, Option.bind_some]
theorem pm_isR (H : ra_m A h) (ok : sa_ok A) {p : Nat} (hp : p < sp_nr (sa_S A)) : gX11_isReservation (nI p) h = some true := by
  unfold gX11_isReservation
  have h8 := ok.1.2.1.2.2
  rw [if_pos po_m3, pm_nr H.1.2, po_in_ix hp (by omega), Option.bind_some]
theorem pm_isRn (H : ra_m A h) (ok : sa_ok A) {x : Int32} (hx : po_out x (sp_nr (sa_S A))) : gX11_isReservation x h = some false := by
  unfold gX11_isReservation
  have h8 := ok.1.2.1.2.2
  rw [if_pos po_m3, pm_nr H.1.2, po_in_out (by omega) hx, Option.bind_some]
/-- cells that the reference's state does not stand on -/
theorem ra_m_fr {h' : mm_H} (H : ra_m A h) (ok : sa_ok A) (h3 : ∀ k, k < 3780 → mh_I h' 353 k = mh_I h 353 k) (h2 : ∀ k, k < 9 → mh_I h' 352 k = mh_I h 352 k) (h4 : ∀ k, mh_I h' 354 k = mh_I h 354 k) (h5 : ∀ k, mh_I h' 355 k = mh_I h 355 k) (h6 : ∀ k, mh_I h' 356 k = mh_I h 356 k) : ra_m A h' := by
  obtain ⟨⟨a1, a2⟩, ⟨a3, a4⟩, ⟨a5, a6⟩, a7, a8⟩ := H
  obtain ⟨⟨o1, o2⟩, ⟨o3, o4⟩, o5, o6, o7⟩ := ok
  refine ⟨⟨sm_C_blk o1 a1 (fun j _ => h3 _ (by omega)), sm_blk o2 a2 (fun j _ => h3 _ (by omega))⟩, ⟨⟨(h2 2 (by decide)).trans a3.1, fun i S hi => ?_⟩, fun k hk => ⟨by rw [h4]; exact (a4 k hk).1, fun S hS => ?_⟩⟩, ⟨⟨(h2 4 (by decide)).trans a5.1, fun j hj => (h5 j).trans (a5.2 j hj)⟩, ⟨(h2 8 (by decide)).trans a6.1, fun j hj => (h6 j).trans (a6.2 j hj)⟩⟩, (h2 5 (by decide)).trans a7, (h2 6 (by decide)).trans a8⟩
  · obtain ⟨u1, u2⟩ := a3.2 i S hi
    exact ⟨sm_blk (o4 S (List.mem_of_getElem? hi)) u1 (fun j _ => h3 _ (by omega)), sm_C_blk o1 u2 (fun j _ => h3 _ (by omega))⟩
  · obtain ⟨u1, u2⟩ := (a4 k hk).2 S hS
    exact ⟨sm_blk (o5 k S hS) u1 (fun j _ => h3 _ (by omega)), sm_C_blk o1 u2 (fun j _ => h3 _ (by omega))⟩
theorem ra_m_9 {v : Int32} (H : ra_m A h) (ok : sa_ok A) : ra_m A (ms_I h 352 9 v) :=
  ra_m_fr H ok (fun k _ => po_I3 (by decide)) (fun k hk => po_I4 (by omega)) (fun k => po_I3 (by decide)) (fun k => po_I3 (by decide)) (fun k => po_I3 (by decide))
/-! what a call does -/
section
variable {β : Type}
def op_c (G : mm_H → Option ((β ⊕ String) × mm_H)) (A : sp_A) (v : β) (A' : sp_A) : Prop := ∀ h, ra_c A h → ∃ h1, G h = some (.inl v, h1) ∧ ra_c A' h1 ∧ po_fr po_fc h h1
def op_x (G : mm_H → Option ((β ⊕ String) × mm_H)) (A : sp_A) (E : String) (A' : sp_A) : Prop := ∀ h, ra_c A h → ∃ h1, G h = some (.inr E, ms_X h1) ∧ ra_c A' h1 ∧ po_fr po_fc h h1
def op_m (M : mm_H → Option (β × mm_H)) (A : sp_A) (t : Int32) (v : β) (A' : sp_A) : Prop := ∀ h, ra_m A h → ∃ h2, M h = some (v, h2) ∧ mh_I h2 352 9 = t ∧ ra_m A' h2 ∧ po_fr po_fm h h2
def op_at (c : String → Option Int32) (G : mm_H → Option ((β ⊕ String) × mm_H)) (M : mm_H → Option (β × mm_H)) (A : sp_A) : Prop :=
  ∃ A', sa_ok A' ∧ ((∃ v, op_c G A v A' ∧ op_m M A 0 v A') ∨ ∃ E t v, c E = some t ∧ ¬ t = 0 ∧ op_x G A E A' ∧ op_m M A t v A')
def op_run (c : String → Option Int32) (G : mm_H → Option ((β ⊕ String) × mm_H)) (M : mm_H → Option (β × mm_H)) : Prop := ∀ A, sa_ok A → op_at c G M A
/-- a call that throws nothing -/
def op_pl (G : mm_H → Option β) (M : mm_H → Option (β × mm_H)) : Prop := ∀ A, sa_ok A → ∃ v, (∀ h, ra_c A h → G h = some v) ∧ ∀ h, ra_m A h → M h = some (v, ms_I h 352 9 0)
theorem po_fm9 {v : Int32} : po_fr po_fm h (ms_I h 352 9 v) := po_fr_I (by decide)
variable {c : String → Option Int32} {G : mm_H → Option ((β ⊕ String) × mm_H)} {M : mm_H → Option (β × mm_H)}
/-- a refused call that changes nothing -/
theorem op_no (ok : sa_ok A) {E : String} {t : Int32} {v : β} (hc : c E = some t) (ht : ¬ t = 0) (hG : ∀ h, ra_c A h → G h = some (.inr E, ms_X h)) (hM : ∀ h, ra_m A h → M h = some (v, ms_I h 352 9 t)) : op_at c G M A :=
  ⟨A, ok, Or.inr ⟨E, t, v, hc, ht, fun h H => ⟨h, hG h H, H, po_fr_refl h⟩, fun h H => ⟨_, hM h H, po_I1, ra_m_9 H ok, po_fm9⟩⟩⟩
theorem po_od_no {q : Nat} (hq : q < 347 ∨ 352 ≤ q) : po_od q = false := by
  unfold po_od
  have a1 : (q == 347) = false := by simp; omega
  have a2 : (q == 349) = false := by simp; omega
  have a3 : (q == 351) = false := by simp; omega
  rw [a1, a2, a3]
  rfl
theorem po_fc_no {q : Nat} (h : po_fc q = false) : 352 ≤ q := by
  have hq' : ¬ q < 352 := of_decide_eq_false h
  omega
/-- a question -/
theorem op_q (ok : sa_ok A) {v : β} (hG : ∀ h, ra_c A h → ∃ h1, G h = some (.inl v, h1) ∧ po_fr po_od h h1) (hM : ∀ h, ra_m A h → M h = some (v, ms_I h 352 9 0)) : op_at c G M A :=
  ⟨A, ok, Or.inl ⟨v, fun h H => by
    obtain ⟨h1, e1, f1⟩ := hG h H
    exact ⟨h1, e1, ra_c_fr H f1 (fun q hq => po_od_no (Or.inl hq)), po_fr_mono f1 (fun q hq => po_od_no (Or.inr (po_fc_no hq)))⟩, fun h H => ⟨_, hM h H, po_I1, ra_m_9 H ok, po_fm9⟩⟩⟩
end
end PPX

section PQH
/-! texts -/
theorem po_mod (y : Int32) : y.toInt % 256 = ((y.toBitVec.toNat % 256 : Nat) : Int) := by
  have h1 : y.toInt = if 2 * y.toBitVec.toNat < 2 ^ 32 then (y.toBitVec.toNat : Int) else (y.toBitVec.toNat : Int) - ((2 ^ 32 : Nat) : Int) := BitVec.toInt_eq_toNat_cond _
  have h2 : y.toBitVec.toNat < 2 ^ 32 := y.toBitVec.isLt
  by_cases h : 2 * y.toBitVec.toNat < 2 ^ 32
  · rw [if_pos h] at h1
    omega
  · rw [if_neg h] at h1
    omega
theorem po_255 (y : Int32) : y &&& 255 = nI (y.toBitVec.toNat % 256) := pk_and y 8 (by decide)
/-- byte k of a word -/
def sp_by (x : Int32) (k : Nat) : Nat := x.toBitVec.toNat / 2 ^ k % 256
theorem sp_by_lt (x : Int32) (k : Nat) : sp_by x k < 256 := Nat.mod_lt _ (by decide)
theorem po_ush {x s : Int32} {k : Nat} (hs : ((s.toUInt32 &&& Int32.toUInt32 31).toBitVec % 32).toNat = k) : (mm_ushr x s).toBitVec.toNat % 256 = sp_by x k := by
  unfold mm_ushr sp_by
  rw [pk_ushr x s k hs]
theorem po_shr {x s : Int32} {k : Nat} (hs : (s.toBitVec.smod 32).toNat = k) (hk : k = 24 ∨ k = 16 ∨ k = 8 ∨ k = 0) : (x >>> s) &&& 255 = nI (sp_by x k) := by
  rw [po_255]
  refine congrArg nI ?_
  have h1 := po_mod (x >>> s)
  have h2 : x.toInt = if 2 * x.toBitVec.toNat < 2 ^ 32 then (x.toBitVec.toNat : Int) else (x.toBitVec.toNat : Int) - ((2 ^ 32 : Nat) : Int) := BitVec.toInt_eq_toNat_cond _
  have h3 : x.toBitVec.toNat < 2 ^ 32 := x.toBitVec.isLt
  rw [pk_shr x s k hs, Int.shiftRight_eq_div_pow] at h1
  unfold sp_by
  generalize (x >>> s).toBitVec.toNat = m at h1 ⊢
  generalize x.toBitVec.toNat = n at h2 h3 ⊢
  rw [h2] at h1
  by_cases h : 2 * n < 2 ^ 32
  · rw [if_pos h] at h1
    rcases hk with rfl | rfl | rfl | rfl
    · omega
    · omega
    · omega
    · omega
  · rw [if_neg h] at h1
    rcases hk with rfl | rfl | rfl | rfl
    · omega
    · omega
    · omega
    · omega
theorem po_i8 (v : Int32) : (v.toInt8.toInt32).toBitVec.toNat % 256 = v.toBitVec.toNat % 256 := by
  have h1 := po_mod (v.toInt8.toInt32)
  have h2 := po_mod v
  rw [Int8.toInt_toInt32, Int32.toInt_toInt8] at h1
  have h3 : v.toInt.bmod (2 ^ 8) % 256 = v.toInt % 256 := Int.bmod_emod
  omega
theorem po_i8' (v : Int32) : ((v.toInt8.toInt32).toInt8.toInt32) &&& 255 = nI (v.toBitVec.toNat % 256) := by
  rw [po_255, po_i8, po_i8]
def sp_app (T : sp_T) (v : Nat) : sp_T := (T.1 + 1, fun j => if j = T.1 then v else T.2 j)
def sp_app4 (T : sp_T) (x : Int32) : sp_T := sp_app (sp_app (sp_app (sp_app T (sp_by x 24)) (sp_by x 16)) (sp_by x 8)) (sp_by x 0)
variable {T : sp_T} {o : Nat} {h : mm_H} {A : sp_A}
def po_tx (o z : Nat) : Bool := z == o || z == o + 1
theorem pc_addByte {c b : Nat} {x : Int32} (H : sc_T T o h) (hc : mm_cap o = c) (hl : T.1 < c) (h6 : c < 60000) (hb : x.toBitVec.toNat % 256 = b) : ∃ h', gX8_addByte o x h = some h' ∧ sc_T (sp_app T b) o h' ∧ po_fr (po_tx o) h h' := by
  unfold gX8_addByte
  rw [H.1, hc, if_neg (nI_pos (by omega)), if_pos (nI_lt hl (by omega)), if_pos (po_ibd hl (by omega)), nI_clamp (by omega), Option.bind_some, po_I3 (by omega), H.1, nI_1, Option.bind_some]
  refine ⟨_, rfl, ⟨po_I1, fun j hj => ?_⟩, po_fr_trans (po_fr_I (by simp [po_tx])) (po_fr_I (by simp [po_tx]))⟩
  have hj' : j < T.1 + 1 := hj
  rw [po_I3 (by omega)]
  show _ = nI (if j = T.1 then b else T.2 j)
  by_cases hjt : j = T.1
  · subst hjt
    rw [po_I1, if_pos rfl, po_i8', hb]
  · rw [po_I4 hjt, if_neg hjt]
    exact H.2 j (by omega)
theorem pc_app4 {c : Nat} {x : Int32} (H : sc_T T o h) (hc : mm_cap o = c) (hl : T.1 + 4 ≤ c) (h6 : c < 60000) : ∃ h', gX8_addBytesOf o x h = some h' ∧ sc_T (sp_app4 T x) o h' ∧ po_fr (po_tx o) h h' := by
  unfold gX8_addBytesOf
  obtain ⟨a, e1, H1, f1⟩ := pc_addByte H hc (by omega) h6 (po_ush (x := x) (s := 24) (k := 24) (by decide))
  rw [e1, Option.bind_some]
  obtain ⟨b, e2, H2, f2⟩ := pc_addByte H1 hc (show T.1 + 1 < c by omega) h6 (po_ush (x := x) (s := 16) (k := 16) (by decide))
  rw [e2, Option.bind_some]
  obtain ⟨d, e3, H3, f3⟩ := pc_addByte H2 hc (show T.1 + 1 + 1 < c by omega) h6 (po_ush (x := x) (s := 8) (k := 8) (by decide))
  rw [e3, Option.bind_some]
  obtain ⟨e, e4, H4, f4⟩ := pc_addByte (b := sp_by x 0) (x := x) H3 hc (show T.1 + 1 + 1 + 1 < c by omega) h6 (by unfold sp_by; rw [Nat.pow_zero, Nat.div_one])
  rw [e4, Option.bind_some]
  exact ⟨e, rfl, H4, po_fr_trans f1 (po_fr_trans f2 (po_fr_trans f3 f4))⟩
def po_bf (z : Nat) : Bool := z == 352 || z == 355
/-- the input text is another -/
def sa_txt (A : sp_A) (T : sp_T) : sp_A := (A.1, A.2.1, (T, sa_W A), A.2.2.2)
theorem sa_txt_ok (ok : sa_ok A) (h1 : T.1 ≤ 600) (h2 : ∀ j, T.2 j < 256) : sa_ok (sa_txt A T) := by
  obtain ⟨o1, o2, o3, o4, o5⟩ := ok
  exact ⟨o1, o2, o3, ⟨h1, h2⟩, o5⟩
theorem po_tx_no {o z : Nat} (hz : z < o ∨ o + 2 ≤ z) : po_tx o z = false := by
  unfold po_tx
  simp
  omega
theorem ra_c_txt {h' : mm_H} (H : ra_c A h) (hT : sc_T T 1 h') (hf : po_fr (po_tx 1) h h') : ra_c (sa_txt A T) h' := by
  obtain ⟨⟨h1, h2⟩, ⟨h3, h4⟩, ⟨h5, h6⟩, h7, h8⟩ := H
  have hn : ∀ z, 3 ≤ z → po_tx 1 z = false := fun z hz => po_tx_no (Or.inr hz)
  refine ⟨⟨sc_C_fr h1 hf (hn _ (by decide)) (hn _ (by decide)) (hn _ (by decide)) (hn _ (by decide)), sc_fr h2 hf (fun q hq => ?_)⟩, ⟨sc_U_fr h3 hf (fun q hq _ => hn q (by omega)), sc_V_fr h4 hf (fun q hq _ => hn q (by omega))⟩, ⟨hT, sc_T_fr h6 hf (hn _ (by decide)) (hn _ (by decide))⟩, (hf.1 5 (hn _ (by decide)) 1).trans h7, (hf.1 5 (hn _ (by decide)) 2).trans h8⟩
  have hq' : 21 ≤ q ∧ q < 21 + 31 := of_decide_eq_true hq
  exact hn q (by omega)
theorem po_tx1_c {a b : mm_H} (h : po_fr (po_tx 1) a b) : po_fr po_fc a b := po_fr_mono h (fun z hz => po_tx_no (Or.inr (by have := po_fc_no hz; omega)))
theorem sp_app_b (h : ∀ j, T.2 j < 256) {b : Nat} (hb : b < 256) : ∀ j, (sp_app T b).2 j < 256 := fun j => by
  show (if j = T.1 then b else T.2 j) < 256
  by_cases hj : j = T.1
  · rw [if_pos hj]
    exact hb
  · rw [if_neg hj]
    exact h j
theorem sp_app4_b (h : ∀ j, T.2 j < 256) (x : Int32) : ∀ j, (sp_app4 T x).2 j < 256 := sp_app_b (sp_app_b (sp_app_b (sp_app_b h (sp_by_lt _ _)) (sp_by_lt _ _)) (sp_by_lt _ _)) (sp_by_lt _ _)
theorem po_c1 : mm_cap 1 = 600 := by decide +kernel
/-! truncate -/
theorem pc_cut {n : Nat} (H : sc_T T o h) (hn : n ≤ T.1) (h6 : T.1 < 2 ^ 31) : ∃ h', gX8_cutTo o (nI n) h = some h' ∧ sc_T (n, T.2) o h' ∧ po_fr (fun z => z == o) h h' := by
  unfold gX8_cutTo
  rw [H.1, po_minN h6 (by omega), show (0 : Int32) = nI 0 from rfl, po_maxN (by decide) (by omega), Option.bind_some, show max 0 (min T.1 n) = n by omega]
  exact ⟨_, rfl, ⟨po_I1, fun j hj => by rw [po_I3 (by omega)]; exact H.2 j (Nat.lt_of_lt_of_le hj hn)⟩, po_fr_I (by simp)⟩
theorem po_tx_o {o : Nat} {a b : mm_H} (h : po_fr (fun z => z == o) a b) : po_fr (po_tx o) a b := po_fr_mono h (fun z hz => (Bool.or_eq_false_iff.mp hz).1)
/-! outputByte -/
theorem pc_byte {j c : Nat} (H : sc_T T o h) (hc : mm_cap o = c) (hj : j < T.1) (hl : T.1 ≤ c) (h6 : c < 60000) : gX8_byteAt o (nI j) h = some (nI (T.2 j)) := by
  unfold gX8_byteAt
  rw [if_neg (nI_pos (by omega)), H.1, if_pos (nI_lt hj (by omega)), hc, if_pos (nI_lt (by omega) (by omega)), if_pos (po_ibd (by omega) (by omega)), nI_clamp (by omega), H.2 j hj]
theorem po_c3 : mm_cap 3 = 199 := by decide +kernel
end PQH

section PQH
/-! texts -/
theorem po_mod (y : Int32) : y.toInt % 256 = ((y.toBitVec.toNat % 256 : Nat) : Int) := by
  have h1 : y.toInt = if 2 * y.toBitVec.toNat < 2 ^ 32 then (y.toBitVec.toNat : Int) else (y.toBitVec.toNat : Int) - ((2 ^ 32 : Nat) : Int) := BitVec.toInt_eq_toNat_cond _
  have h2 : y.toBitVec.toNat < 2 ^ 32 := y.toBitVec.isLt
  by_cases h : 2 * y.toBitVec.toNat < 2 ^ 32
  · rw [if_pos h] at h1
    omega
  · rw [if_neg h] at h1
    omega
theorem po_255 (y : Int32) : y &&& 255 = nI (y.toBitVec.toNat % 256) := pk_and y 8 (by decide)
/-- byte k of a word -/
def sp_by (x : Int32) (k : Nat) : Nat := x.toBitVec.toNat / 2 ^ k % 256
theorem sp_by_lt (x : Int32) (k : Nat) : sp_by x k < 256 := Nat.mod_lt _ (by decide)
theorem po_ush {x s : Int32} {k : Nat} (hs : ((s.toUInt32 &&& Int32.toUInt32 31).toBitVec % 32).toNat = k) : (mm_ushr x s).toBitVec.toNat % 256 = sp_by x k := by
  unfold mm_ushr sp_by
  rw [pk_ushr x s k hs]
theorem po_shr {x s : Int32} {k : Nat} (hs : (s.toBitVec.smod 32).toNat = k) (hk : k = 24 ∨ k = 16 ∨ k = 8 ∨ k = 0) : (x >>> s) &&& 255 = nI (sp_by x k) := by
  rw [po_255]
  refine congrArg nI ?_
  have h1 := po_mod (x >>> s)
  have h2 : x.toInt = if 2 * x.toBitVec.toNat < 2 ^ 32 then (x.toBitVec.toNat : Int) else (x.toBitVec.toNat : Int) - ((2 ^ 32 : Nat) : Int) := BitVec.toInt_eq_toNat_cond _
  have h3 : x.toBitVec.toNat < 2 ^ 32 := x.toBitVec.isLt
  rw [pk_shr x s k hs, Int.shiftRight_eq_div_pow] at h1
  unfold sp_by
  generalize (x >>> s).toBitVec.toNat = m at h1 ⊢
  generalize x.toBitVec.toNat = n at h2 h3 ⊢
  rw [h2] at h1
  by_cases h : 2 * n < 2 ^ 32
  · rw [if_pos h] at h1
    rcases hk with rfl | rfl | rfl | rfl
    · omega
    · omega
    · omega
    · omega
  · rw [if_neg h] at h1
    rcases hk with rfl | rfl | rfl | rfl
    · omega
    · omega
    · omega
    · omega
theorem po_i8 (v : Int32) : (v.toInt8.toInt32).toBitVec.toNat % 256 = v.toBitVec.toNat % 256 := by
  have h1 := po_mod (v.toInt8.toInt32)
  have h2 := po_mod v
  rw [Int8.toInt_toInt32, Int32.toInt_toInt8] at h1
  have h3 : v.toInt.bmod (2 ^ 8) % 256 = v.toInt % 256 := Int.bmod_emod
  omega
theorem po_i8' (v : Int32) : ((v.toInt8.toInt32).toInt8.toInt32) &&& 255 = nI (v.toBitVec.toNat % 256) := by
  rw [po_255, po_i8, po_i8]
def sp_app (T : sp_T) (v : Nat) : sp_T := (T.1 + 1, fun j => if j = T.1 then v else T.2 j)
def sp_app4 (T : sp_T) (x : Int32) : sp_T := sp_app (sp_app (sp_app (sp_app T (sp_by x 24)) (sp_by x 16)) (sp_by x 8)) (sp_by x 0)
variable {T : sp_T} {o : Nat} {h : mm_H} {A : sp_A}
def po_tx (o z : Nat) : Bool := z == o || z == o + 1
theorem pc_addByte {c b : Nat} {x : Int32} (H : sc_T T o h) (hc : mm_cap o = c) (hl : T.1 < c) (h6 : c < 60000) (hb : x.toBitVec.toNat % 256 = b) : ∃ h', gX8_addByte o x h = some h' ∧ sc_T (sp_app T b) o h' ∧ po_fr (po_tx o) h h' := by
  unfold gX8_addByte
  rw [H.1, hc, if_neg (nI_pos (by omega)), if_pos (nI_lt hl (by omega)), if_pos (po_ibd hl (by omega)), nI_clamp (by omega), Option.bind_some, po_I3 (by omega), H.1, nI_1, Option.bind_some]
  refine ⟨_, rfl, ⟨po_I1, fun j hj => ?_⟩, po_fr_trans (po_fr_I (by simp [po_tx])) (po_fr_I (by simp [po_tx]))⟩
  have hj' : j < T.1 + 1 := hj
  rw [po_I3 (by omega)]
  show _ = nI (if j = T.1 then b else T.2 j)
  by_cases hjt : j = T.1
  · subst hjt
    rw [po_I1, if_pos rfl, po_i8', hb]
  · rw [po_I4 hjt, if_neg hjt]
    exact H.2 j (by omega)
theorem pc_app4 {c : Nat} {x : Int32} (H : sc_T T o h) (hc : mm_cap o = c) (hl : T.1 + 4 ≤ c) (h6 : c < 60000) : ∃ h', gX8_addBytesOf o x h = some h' ∧ sc_T (sp_app4 T x) o h' ∧ po_fr (po_tx o) h h' := by
  unfold gX8_addBytesOf
  obtain ⟨a, e1, H1, f1⟩ := pc_addByte H hc (by omega) h6 (po_ush (x := x) (s := 24) (k := 24) (by decide))
  rw [e1, Option.bind_some]
  obtain ⟨b, e2, H2, f2⟩ := pc_addByte H1 hc (show T.1 + 1 < c by omega) h6 (po_ush (x := x) (s := 16) (k := 16) (by decide))
  rw [e2, Option.bind_some]
  obtain ⟨d, e3, H3, f3⟩ := pc_addByte H2 hc (show T.1 + 1 + 1 < c by omega) h6 (po_ush (x := x) (s := 8) (k := 8) (by decide))
  rw [e3, Option.bind_some]
  obtain ⟨e, e4, H4, f4⟩ := pc_addByte (b := sp_by x 0) (x := x) H3 hc (show T.1 + 1 + 1 + 1 < c by omega) h6 (by unfold sp_by; rw [Nat.pow_zero, Nat.div_one])
  rw [e4, Option.bind_some]
  exact ⟨e, rfl, H4, po_fr_trans f1 (po_fr_trans f2 (po_fr_trans f3 f4))⟩
def po_bf (z : Nat) : Bool := z == 352 || z == 355
/-- the reference's buffer: only its cells and its length -/
def pm_bfr (h h' : mm_H) : Prop := po_fr po_bf h h' ∧ ∀ k, k ≠ 4 → mh_I h' 352 k = mh_I h 352 k
theorem pm_bfr_refl (h : mm_H) : pm_bfr h h := ⟨po_fr_refl h, fun _ _ => rfl⟩
theorem pm_bfr_trans {a b c : mm_H} (h1 : pm_bfr a b) (h2 : pm_bfr b c) : pm_bfr a c := ⟨po_fr_trans h1.1 h2.1, fun k hk => (h2.2 k hk).trans (h1.2 k hk)⟩
theorem pm_app1 {b : Nat} {v : Int32} (H : sm_T T 4 355 h) (hv : v = nI b) : sm_T (sp_app T b) 4 355 (ms_I (ms_I h 355 T.1 v) 352 4 (nI (T.1 + 1))) ∧ pm_bfr h (ms_I (ms_I h 355 T.1 v) 352 4 (nI (T.1 + 1))) := by
  refine ⟨⟨po_I1, fun j hj => ?_⟩, po_fr_trans (po_fr_I (by decide)) (po_fr_I (by decide)), fun k hk => ?_⟩
  · have hj' : j < T.1 + 1 := hj
    rw [po_I3 (by decide)]
    show _ = nI (if j = T.1 then b else T.2 j)
    by_cases hjt : j = T.1
    · subst hjt
      rw [po_I1, if_pos rfl, hv]
    · rw [po_I4 hjt, if_neg hjt]
      exact H.2 j (by omega)
  · rw [po_I4 hk, po_I3 (by decide)]
theorem pm_appS {x s s' : Int32} {n k : Nat} (H : sm_T T 4 355 h) (hl : T.1 < 600) (h0 : ¬ s < 0) (hs : ((s &&& 31).toBitVec.smod 32).toNat = k) (hk : k = 24 ∨ k = 16 ∨ k = 8 ∨ k = 0) (hs' : s + (-8) = s') : ∃ h', gX11_appendWord_L3 x (n + 1) s h = gX11_appendWord_L3 x n s' h' ∧ sm_T (sp_app T (sp_by x k)) 4 355 h' ∧ pm_bfr h h' := by
  obtain ⟨g1, g2⟩ := pm_app1 H (v := (x >>> (s &&& 31)) &&& 255) (po_shr hs hk)
  refine ⟨_, ?_, g1, g2⟩
  rw [gX11_appendWord_L3, if_neg h0, H.1, if_pos (po_ibd hl (by decide)), nI_clamp (by omega), Option.bind_some, po_I3 (by decide), H.1, nI_1, Option.bind_some, Option.bind_some, hs']
theorem pm_app4 {x : Int32} (H : sm_T T 4 355 h) (hl : T.1 + 4 ≤ 600) : ∃ h', gX11_appendWord x h = some h' ∧ sm_T (sp_app4 T x) 4 355 h' ∧ pm_bfr h h' := by
  unfold gX11_appendWord
  rw [show mm_F = 99995 + 1 + 1 + 1 + 1 + 1 from rfl]
  obtain ⟨a, e1, H1, f1⟩ := pm_appS (x := x) (s := 24) (s' := 16) (n := 99995 + 1 + 1 + 1 + 1) (k := 24) H (by omega) (by decide) (by decide) (by decide) (by decide)
  obtain ⟨b, e2, H2, f2⟩ := pm_appS (x := x) (s := 16) (s' := 8) (n := 99995 + 1 + 1 + 1) (k := 16) H1 (show T.1 + 1 < 600 by omega) (by decide) (by decide) (by decide) (by decide)
  obtain ⟨c, e3, H3, f3⟩ := pm_appS (x := x) (s := 8) (s' := 0) (n := 99995 + 1 + 1) (k := 8) H2 (show T.1 + 1 + 1 < 600 by omega) (by decide) (by decide) (by decide) (by decide)
  obtain ⟨d, e4, H4, f4⟩ := pm_appS (x := x) (s := 0) (s' := -8) (n := 99995 + 1) (k := 0) H3 (show T.1 + 1 + 1 + 1 < 600 by omega) (by decide) (by decide) (by decide) (by decide)
  rw [e1, e2, e3, e4, gX11_appendWord_L3, if_pos (by decide)]
  exact ⟨d, rfl, H4, pm_bfr_trans f1 (pm_bfr_trans f2 (pm_bfr_trans f3 f4))⟩
/-- the input text is another -/
def sa_txt (A : sp_A) (T : sp_T) : sp_A := (A.1, A.2.1, (T, sa_W A), A.2.2.2)
theorem sa_txt_ok (ok : sa_ok A) (h1 : T.1 ≤ 600) (h2 : ∀ j, T.2 j < 256) : sa_ok (sa_txt A T) := by
  obtain ⟨o1, o2, o3, o4, o5⟩ := ok
  exact ⟨o1, o2, o3, ⟨h1, h2⟩, o5⟩
theorem po_tx_no {o z : Nat} (hz : z < o ∨ o + 2 ≤ z) : po_tx o z = false := by
  unfold po_tx
  simp
  omega
theorem ra_c_txt {h' : mm_H} (H : ra_c A h) (hT : sc_T T 1 h') (hf : po_fr (po_tx 1) h h') : ra_c (sa_txt A T) h' := by
  obtain ⟨⟨h1, h2⟩, ⟨h3, h4⟩, ⟨h5, h6⟩, h7, h8⟩ := H
  have hn : ∀ z, 3 ≤ z → po_tx 1 z = false := fun z hz => po_tx_no (Or.inr hz)
  refine ⟨⟨sc_C_fr h1 hf (hn _ (by decide)) (hn _ (by decide)) (hn _ (by decide)) (hn _ (by decide)), sc_fr h2 hf (fun q hq => ?_)⟩, ⟨sc_U_fr h3 hf (fun q hq _ => hn q (by omega)), sc_V_fr h4 hf (fun q hq _ => hn q (by omega))⟩, ⟨hT, sc_T_fr h6 hf (hn _ (by decide)) (hn _ (by decide))⟩, (hf.1 5 (hn _ (by decide)) 1).trans h7, (hf.1 5 (hn _ (by decide)) 2).trans h8⟩
  have hq' : 21 ≤ q ∧ q < 21 + 31 := of_decide_eq_true hq
  exact hn q (by omega)
theorem ra_m_txt {h' : mm_H} (H : ra_m A h) (ok : sa_ok A) (hT : sm_T T 4 355 h') (hf : pm_bfr h h') : ra_m (sa_txt A T) h' := by
  obtain ⟨⟨a1, a2⟩, ⟨a3, a4⟩, ⟨a5, a6⟩, a7, a8⟩ := H
  obtain ⟨⟨o1, o2⟩, ⟨o3, o4⟩, o5, o6, o7⟩ := ok
  have h3 : ∀ k, mh_I h' 353 k = mh_I h 353 k := hf.1.1 353 (by decide)
  refine ⟨⟨sm_C_blk o1 a1 (fun j _ => h3 _), sm_blk o2 a2 (fun j _ => h3 _)⟩, ⟨⟨(hf.2 2 (by decide)).trans a3.1, fun i S hi => ?_⟩, fun k hk => ⟨by rw [hf.1.1 354 (by decide)]; exact (a4 k hk).1, fun S hS => ?_⟩⟩, ⟨hT, ⟨(hf.2 8 (by decide)).trans a6.1, fun j hj => (hf.1.1 356 (by decide) j).trans (a6.2 j hj)⟩⟩, (hf.2 5 (by decide)).trans a7, (hf.2 6 (by decide)).trans a8⟩
  · obtain ⟨u1, u2⟩ := a3.2 i S hi
    exact ⟨sm_blk (o4 S (List.mem_of_getElem? hi)) u1 (fun j _ => h3 _), sm_C_blk o1 u2 (fun j _ => h3 _)⟩
  · obtain ⟨u1, u2⟩ := (a4 k hk).2 S hS
    exact ⟨sm_blk (o5 k S hS) u1 (fun j _ => h3 _), sm_C_blk o1 u2 (fun j _ => h3 _)⟩
theorem pm_bfr_fm {a b : mm_H} (h : pm_bfr a b) : po_fr po_fm a b := po_fr_mono h.1 (fun z hz => by
  have hz' : ¬ (352 ≤ z ∧ z < 358) := of_decide_eq_false hz
  unfold po_bf
  simp
  omega)
theorem po_tx1_c {a b : mm_H} (h : po_fr (po_tx 1) a b) : po_fr po_fc a b := po_fr_mono h (fun z hz => po_tx_no (Or.inr (by have := po_fc_no hz; omega)))
theorem sp_app_b (h : ∀ j, T.2 j < 256) {b : Nat} (hb : b < 256) : ∀ j, (sp_app T b).2 j < 256 := fun j => by
  show (if j = T.1 then b else T.2 j) < 256
  by_cases hj : j = T.1
  · rw [if_pos hj]
    exact hb
  · rw [if_neg hj]
    exact h j
theorem sp_app4_b (h : ∀ j, T.2 j < 256) (x : Int32) : ∀ j, (sp_app4 T x).2 j < 256 := sp_app_b (sp_app_b (sp_app_b (sp_app_b h (sp_by_lt _ _)) (sp_by_lt _ _)) (sp_by_lt _ _)) (sp_by_lt _ _)
theorem po_c1 : mm_cap 1 = 600 := by decide +kernel
theorem op_append (a b c d e : Int32) : op_run (lc_1 po_IS) (gX10_append a b c d e) (gX11_append a b c d e) := by
  intro A ok
  obtain ⟨hl, hb⟩ := ok.2.2.2.1
  by_cases hn : (sa_T A).1 + 20 ≤ 600
  · refine ⟨sa_txt A (sp_app4 (sp_app4 (sp_app4 (sp_app4 (sp_app4 (sa_T A) a) b) c) d) e), sa_txt_ok ok (show (sa_T A).1 + 20 ≤ 600 from hn) (sp_app4_b (sp_app4_b (sp_app4_b (sp_app4_b (sp_app4_b hb a) b) c) d) e), Or.inl ⟨nI ((sa_T A).1 + 20), fun h H => ?_, fun h H => ?_⟩⟩
    · have H0 := H.2.2.1.1
      unfold gX10_append
      rw [H0.1, show (20 : Int32) = nI 20 from rfl, nI_add, if_neg (show ¬ 600 < nI ((sa_T A).1 + 20) from nI_nlt (a := 600) hn (by decide))]
      obtain ⟨x1, e1, H1, f1⟩ := pc_app4 (x := a) H0 po_c1 (by omega) (by decide)
      obtain ⟨x2, e2, H2, f2⟩ := pc_app4 (x := b) H1 po_c1 (show (sa_T A).1 + 4 + 4 ≤ 600 by omega) (by decide)
      obtain ⟨x3, e3, H3, f3⟩ := pc_app4 (x := c) H2 po_c1 (show (sa_T A).1 + 8 + 4 ≤ 600 by omega) (by decide)
      obtain ⟨x4, e4, H4, f4⟩ := pc_app4 (x := d) H3 po_c1 (show (sa_T A).1 + 12 + 4 ≤ 600 by omega) (by decide)
      obtain ⟨x5, e5, H5, f5⟩ := pc_app4 (x := e) H4 po_c1 (show (sa_T A).1 + 16 + 4 ≤ 600 by omega) (by decide)
      rw [e1, Option.bind_some, e2, Option.bind_some, e3, Option.bind_some, e4, Option.bind_some, e5, Option.bind_some, H5.1]
      have hf := po_fr_trans f1 (po_fr_trans f2 (po_fr_trans f3 (po_fr_trans f4 f5)))
      exact ⟨x5, rfl, ra_c_txt H H5 hf, po_tx1_c hf⟩
    · have H9 := ra_m_9 (v := 0) H ok
      have H0 := H9.2.2.1.1
      unfold gX11_append
      obtain ⟨x1, e1, H1, f1⟩ := pm_app4 (x := a) H0 (by omega)
      obtain ⟨x2, e2, H2, f2⟩ := pm_app4 (x := b) H1 (show (sa_T A).1 + 4 + 4 ≤ 600 by omega)
      obtain ⟨x3, e3, H3, f3⟩ := pm_app4 (x := c) H2 (show (sa_T A).1 + 8 + 4 ≤ 600 by omega)
      obtain ⟨x4, e4, H4, f4⟩ := pm_app4 (x := d) H3 (show (sa_T A).1 + 12 + 4 ≤ 600 by omega)
      obtain ⟨x5, e5, H5, f5⟩ := pm_app4 (x := e) H4 (show (sa_T A).1 + 16 + 4 ≤ 600 by omega)
      have hf := pm_bfr_trans f1 (pm_bfr_trans f2 (pm_bfr_trans f3 (pm_bfr_trans f4 f5)))
      refine ⟨x5, ?_, ?_, ra_m_txt H9 ok H5 hf, po_fr_trans po_fm9 (pm_bfr_fm hf)⟩
      · refine po_jn (fun k1 g1 => ?_)
        rw [H.2.2.1.1.1, show (20 : Int32) = nI 20 from rfl, nI_add, if_neg (show ¬ 600 < nI ((sa_T A).1 + 20) from nI_nlt (a := 600) hn (by decide)), g1]
        dsimp only
        rw [po_fails_0, Option.bind_some, if_neg Bool.false_ne_true, e1, Option.bind_some, e2, Option.bind_some, e3, Option.bind_some, e4, Option.bind_some, e5, Option.bind_some, H5.1]
        rfl
      · rw [hf.2 9 (by decide), po_I1]
  · refine op_no ok (t := 1) (v := 0) lc_1a (by decide) (fun h H => ?_) (fun h H => ?_)
    · unfold gX10_append
      rw [H.2.2.1.1.1, show (20 : Int32) = nI 20 from rfl, nI_add, if_pos (show 600 < nI ((sa_T A).1 + 20) from nI_lt (a := 600) (by omega) (by omega))]
    · unfold gX11_append
      refine po_jn (fun k1 g1 => ?_)
      rw [H.2.2.1.1.1, show (20 : Int32) = nI 20 from rfl, nI_add, if_pos (show 600 < nI ((sa_T A).1 + 20) from nI_lt (a := 600) (by omega) (by omega)), g1]
      dsimp only
      rw [po_fails_1, Option.bind_some, if_pos rfl]
/-! truncate -/
theorem pc_cut {n : Nat} (H : sc_T T o h) (hn : n ≤ T.1) (h6 : T.1 < 2 ^ 31) : ∃ h', gX8_cutTo o (nI n) h = some h' ∧ sc_T (n, T.2) o h' ∧ po_fr (fun z => z == o) h h' := by
  unfold gX8_cutTo
  rw [H.1, po_minN h6 (by omega), show (0 : Int32) = nI 0 from rfl, po_maxN (by decide) (by omega), Option.bind_some, show max 0 (min T.1 n) = n by omega]
  exact ⟨_, rfl, ⟨po_I1, fun j hj => by rw [po_I3 (by omega)]; exact H.2 j (Nat.lt_of_lt_of_le hj hn)⟩, po_fr_I (by simp)⟩
theorem po_tx_o {o : Nat} {a b : mm_H} (h : po_fr (fun z => z == o) a b) : po_fr (po_tx o) a b := po_fr_mono h (fun z hz => (Bool.or_eq_false_iff.mp hz).1)
theorem op_truncate (x : Int32) : op_run (lc_1 po_IA) (gX10_truncate x) (gX11_truncate x) := by
  intro A ok
  obtain ⟨hl, hb⟩ := ok.2.2.2.1
  rcases po_cr x (a := 0) (b := (sa_T A).1) (by omega) (by omega) with ⟨n, hn0, hn, rfl⟩ | hx
  · refine ⟨sa_txt A (n, (sa_T A).2), sa_txt_ok ok (Nat.le_trans hn hl) hb, Or.inl ⟨nI n, fun h H => ?_, fun h H => ?_⟩⟩
    · obtain ⟨h', e1, H1, f1⟩ := pc_cut (n := n) H.2.2.1.1 hn (by omega)
      unfold gX10_truncate
      rw [H.2.2.1.1.1, pc_ckI (y := 0) hn0 hn (by omega) rfl rfl rfl, Option.bind_some]
      dsimp only
      rw [e1, Option.bind_some, H1.1]
      exact ⟨h', rfl, ra_c_txt H H1 (po_tx_o f1), po_tx1_c (po_tx_o f1)⟩
    · have H9 := ra_m_9 (v := 0) H ok
      have hf : pm_bfr (ms_I h 352 9 0) (ms_I (ms_I h 352 9 0) 352 4 (nI n)) := ⟨po_fr_I (by decide), fun k hk => po_I4 hk⟩
      unfold gX11_truncate
      refine ⟨ms_I (ms_I h 352 9 0) 352 4 (nI n), ?_, ?_, ra_m_txt H9 ok ⟨po_I1, fun j hj => by rw [po_I3 (by decide)]; exact H9.2.2.1.1.2 j (Nat.lt_of_lt_of_le hj hn)⟩ hf, po_fr_trans po_fm9 (pm_bfr_fm hf)⟩
      · rw [H.2.2.1.1.1, po_in_in (y := 0) hn0 hn (by omega) rfl rfl rfl, Option.bind_some]
        refine po_jn (fun k1 g1 => ?_)
        rw [if_pos rfl, g1]
        dsimp only
        rw [po_fails_0, Option.bind_some, if_neg Bool.false_ne_true, Option.bind_some]
      · rw [po_I4 (by decide), po_I1]
  · refine op_no ok (t := 1) (v := 0) lc_1a (by decide) (fun h H => ?_) (fun h H => ?_)
    · unfold gX10_truncate
      rw [H.2.2.1.1.1, pc_ckIn (y := 0) hx rfl rfl]
      rfl
    · unfold gX11_truncate
      rw [H.2.2.1.1.1, po_in_no' (y := 0) hx rfl rfl, Option.bind_some]
      refine po_jn (fun k1 g1 => ?_)
      rw [if_neg (by decide), g1]
      dsimp only
      rw [po_fails_1, Option.bind_some, if_pos rfl]
/-! outputByte -/
theorem pc_byte {j c : Nat} (H : sc_T T o h) (hc : mm_cap o = c) (hj : j < T.1) (hl : T.1 ≤ c) (h6 : c < 60000) : gX8_byteAt o (nI j) h = some (nI (T.2 j)) := by
  unfold gX8_byteAt
  rw [if_neg (nI_pos (by omega)), H.1, if_pos (nI_lt hj (by omega)), hc, if_pos (nI_lt (by omega) (by omega)), if_pos (po_ibd (by omega) (by omega)), nI_clamp (by omega), H.2 j hj]
theorem po_c3 : mm_cap 3 = 199 := by decide +kernel
theorem op_outputByte (x : Int32) : op_run (lc_1 po_IO) (gX10_outputByte x) (gX11_outputByte x) := by
  intro A ok
  obtain ⟨hl, hb⟩ := ok.2.2.2.2.1
  rcases po_cs x (n := (sa_W A).1) (by omega) with ⟨j, hj, rfl⟩ | hx
  · refine op_q ok (v := nI ((sa_W A).2 j)) (fun h H => ⟨h, ?_, po_fr_refl h⟩) (fun h H => ?_)
    · unfold gX10_outputByte
      rw [H.2.2.1.2.1, po_outside_ix hj (by omega), Option.bind_some, if_neg (by decide), pc_byte H.2.2.1.2 po_c3 hj hl (by decide), Option.bind_some]
    · unfold gX11_outputByte
      rw [H.2.2.1.2.1, po_in_ix hj (by omega), Option.bind_some]
      refine po_jn (fun k1 g1 => ?_)
      rw [if_pos rfl, g1]
      dsimp only
      rw [po_fails_0, Option.bind_some, if_neg Bool.false_ne_true, if_pos (po_ibd (n := 300) (by omega) (by decide)), nI_clamp (by omega), po_I3 (by decide), H.2.2.1.2.2 j hj]
  · refine op_no ok (t := 1) (v := 0) lc_1a (by decide) (fun h H => ?_) (fun h H => ?_)
    · unfold gX10_outputByte
      rw [H.2.2.1.2.1, po_outside_out (by omega) hx, Option.bind_some, if_pos rfl]
    · unfold gX11_outputByte
      rw [H.2.2.1.2.1, po_in_out (by omega) hx, Option.bind_some]
      refine po_jn (fun k1 g1 => ?_)
      rw [if_neg (by decide), g1]
      dsimp only
      rw [po_fails_1, Option.bind_some, if_pos rfl]
end PQH

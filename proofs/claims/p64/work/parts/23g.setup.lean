section MMSU
/-! the setup's text (gen24g.py) -/
variable {F G F' : mm_H → Prop} {h h0 : mm_H} {g m n : Nat} {t : Nat → Nat} {l : List Nat}
theorem rL_pickF (p1 : Int32) (p2 : Int32) (h : mm_H) : mm_R2 F F mL_pick [.ref 400, .int p1, .int p2] h (gL_pick p1 p2 h) (lf_i h) := by
  refine mm_body (L := [some (.ref 400), some (.int p1), some (.int p2)]) rfl (by decide +kernel) (Nat.le_of_ble_eq_true rfl) rfl ?_
  unfold gL_pick
  refine me_iload_n (pc' := 1) (i := 1) dL_pick_0 rfl rfl rfl ?_
  refine me_aload_n (pc' := 2) (i := 0) dL_pick_1 rfl rfl rfl ?_
  refine me_scln (pc' := 3) dL_pick_2 rfl ?_
  refine me_icmp_ge (pc' := 6) (tgt := 17) dL_pick_3 (by decide) rfl (fun c1 => ?_) (fun c1 => ?_)
  · refine me_iconst (pc' := 18) (v := 0) dL_pick_17 rfl kc_i0 ?_
    exact me_iret dL_pick_18 rfl (fun z => z) rfl
  · refine me_aload_n (pc' := 7) (i := 0) dL_pick_6 rfl rfl rfl ?_
    refine me_iload_n (pc' := 8) (i := 1) dL_pick_7 rfl rfl rfl ?_
    refine mm_guard (fun c2 => ?_)
    refine me_scld (pc' := 9) dL_pick_8 rfl c2 ?_
    refine me_ldcI (pc' := 11) (v := 2147483647) dL_pick_9 rfl (mm_gw_of (List.mem_of_getElem? (i := 986) (by decide +kernel)) rfl) ?_
    refine me_iand (pc' := 12) dL_pick_11 rfl ?_
    refine me_iload_n (pc' := 13) (i := 2) dL_pick_12 rfl rfl rfl ?_
    refine mm_if (fun _ => mm_none) (fun c3 => ?_)
    refine me_irem (pc' := 14) dL_pick_13 rfl c3 ?_
    refine me_goto (tgt := 18) dL_pick_14 (by decide) ?_
    exact me_iret dL_pick_18 rfl (fun z => z) rfl
/-- what the law draws: a number below b from the k-th place of the script -/
def lp (h : mm_H) (k b : Nat) : Nat := if nI k < mh_I h 400 0 then (mh_I h 400 (k + 1) &&& 2147483647).toNatClampNeg % b else 0
theorem lp_and (x : Int32) : ∃ a : Nat, a < 2 ^ 31 ∧ x &&& 2147483647 = nI a := by
  refine nI_of ?_
  rw [Int32.lt_iff_toInt_lt, Int32.toInt_zero]
  have e : (x &&& 2147483647).toInt = (x.toBitVec &&& 2147483647#32).toInt := rfl
  rw [e, BitVec.toInt_eq_toNat_of_msb]
  · omega
  · rw [BitVec.msb_and]
    have : (2147483647#32).msb = false := by decide
    rw [this, Bool.and_false]
theorem lp_lt {k b : Nat} (hb : 0 < b) : lp h k b < b := by
  unfold lp
  split
  · exact Nat.mod_lt _ hb
  · exact hb
theorem lp_eq {k b : Nat} (e : ∀ k, mh_I h 400 k = mh_I h0 400 k) : lp h k b = lp h0 k b := by
  unfold lp
  rw [e, e]
theorem gL_pickN {k b : Nat} (hk : k < 2 ^ 31) (hb : 0 < b) (hb2 : b < 2 ^ 31) : gL_pick (nI k) (nI b) h = some (nI (lp h k b)) := by
  unfold gL_pick lp
  by_cases h1 : nI k < mh_I h 400 0
  · have h2 : mm_isb (nI k) (mh_I h 400 0) = true := decide_eq_true ⟨nI_pos hk, h1⟩
    have h3 : ¬ nI b = 0 := fun z => by
      have := (nI_eq (a := b) (b := 0) (by omega) (by decide)).mp z
      omega
    rw [if_pos h1, if_pos h1, if_pos h2, if_neg h3, nI_clamp hk]
    obtain ⟨a, ha, e⟩ := lp_and (mh_I h 400 (k + 1))
    rw [e, nI_clamp ha, pk_rem ha hb hb2]
  · rw [if_neg h1, if_neg h1]
    rfl
theorem rL_pickN {k b : Nat} (hk : k < 2 ^ 31) (hb : 0 < b) (hb2 : b < 2 ^ 31) (h : mm_H) : mm_R2 F F mL_pick [.ref 400, .int (nI k), .int (nI b)] h (some (nI (lp h k b))) (lf_i h) := by
  have r := rL_pickF (F := F) (nI k) (nI b) h
  rw [gL_pickN hk hb hb2] at r
  exact r
/-- the builder holds the letters l -/
def sb_L (h0 : mm_H) (g m : Nat) (l : List Nat) (h : mm_H) : Prop := sb_W h0 g m l.length (fun j => l.getD j 0) h
theorem sb_Wc {n' : Nat} {t' : Nat → Nat} (hn : n = n') (ht : ∀ j, j < n → t j = t' j) (W : sb_W h0 g m n t h) : sb_W h0 g m n' t' h := by
  subst hn
  obtain ⟨a, ⟨b1, b2, b3, b4⟩, c⟩ := W
  exact ⟨a, ⟨b1, b2, fun j hj => ht j hj ▸ b3 j hj, b4⟩, c⟩
theorem sb_Lapp {w : Nat} {s : Nat → Nat} (W : sb_W h0 g m (l.length + w) (sb_cat (fun j => l.getD j 0) l.length s) h) : sb_L h0 g m (l ++ (List.range w).map s) h := by
  refine sb_Wc (by simp) (fun j hj => ?_) W
  by_cases hl : j < l.length
  · rw [sb_cat_lo hl]
    show l.getD j 0 = (l ++ (List.range w).map s).getD j 0
    rw [List.getD_eq_getElem?_getD, List.getD_eq_getElem?_getD, List.getElem?_append_left hl]
  · obtain ⟨i, rfl⟩ : ∃ i, j = l.length + i := ⟨j - l.length, by omega⟩
    rw [sb_cat_hi]
    show s i = (l ++ (List.range w).map s).getD (l.length + i) 0
    rw [List.getD_eq_getElem?_getD, List.getElem?_append_right (by omega), Nat.add_sub_cancel_left, List.getElem?_map, List.getElem?_range (by omega)]
    rfl
theorem rJ4_LS {i : Nat} {wl : List Nat} (hi : i < 17) (hT : sb_Lat (mm_sT i) (mm_sn i) (mm_sbs i)) (hw : (List.range (mm_sn i)).map (mm_sT i) = wl) (hs : mm_sn i ≤ 28) (W : sb_L h0 g m l h) (hn : l.length + mm_sn i ≤ 300) : ∃ h' g' m', sb_L h0 g' m' (l ++ wl) h' ∧ mm_R2 mm_K mm_K mJ4_append_15ec4 [.ref 352, .ref (mm_NN + 1 + i)] h (some (352, h')) lf_ae := by
  obtain ⟨h1, g1, m1, W1, r1⟩ := rJ4_appendS hi hT W hs hn
  exact ⟨h1, g1, m1, hw ▸ sb_Lapp W1, r1⟩
theorem rJ4_LC {c : Nat} (hc : c < 256) (W : sb_L h0 g m l h) (hn : l.length + 1 ≤ 300) : ∃ h' g' m', sb_L h0 g' m' (l ++ [c]) h' ∧ mm_R2 mm_K mm_K mJ4_append_cf468 [.ref 352, .int (nI c)] h (some (352, h')) lf_ae := by
  obtain ⟨h1, g1, m1, W1, r1⟩ := rJ4_appendC hc W hn
  exact ⟨h1, g1, m1, sb_Lapp W1, r1⟩
/-- v's decimal digits -/
def tx_D (v : Nat) : List Nat := if v < 10 then [v + 48] else [v / 10 + 48, v % 10 + 48]
theorem tx_D_eq {v : Nat} (hv : v < 100) : (List.range (sb_dg v)).map (sb_dec v) = tx_D v := by
  unfold tx_D
  by_cases h : v < 10
  · obtain ⟨e1, e2⟩ := sb_dg1 h
    rw [if_pos h, e1]
    show [sb_dec v 0] = _
    rw [e2, Nat.mod_eq_of_lt h]
  · obtain ⟨e1, e2, e3⟩ := sb_dg2 (v := v) ⟨by omega, hv⟩
    rw [if_neg h, e1]
    show [sb_dec v 0, sb_dec v 1] = _
    rw [e2, e3]
theorem tx_D_len (v : Nat) : (tx_D v).length ≤ 2 := by
  unfold tx_D
  split <;> simp
theorem sb_dg100' {v : Nat} (hv : v < 100) : sb_dg v ≤ 2 := by
  by_cases h : v < 10
  · rw [(sb_dg1 h).1]
    decide
  · rw [(sb_dg2 (v := v) ⟨by omega, hv⟩).1]
    exact Nat.le_refl 2
theorem rJ4_LI {v : Nat} (hv : v < 100) (W : sb_L h0 g m l h) (hn : l.length + 2 ≤ 300) : ∃ h' g' m', sb_L h0 g' m' (l ++ tx_D v) h' ∧ mm_R2 mm_K mm_K mJ4_append_bf812 [.ref 352, .int (nI v)] h (some (352, h')) lf_ae := by
  have hd := sb_dg100' hv
  obtain ⟨h1, g1, m1, W1, r1⟩ := rJ4_appendI hv W (by omega)
  exact ⟨h1, g1, m1, tx_D_eq hv ▸ sb_Lapp W1, r1⟩
def tx_W : List Nat := [119, 97, 114, 101, 104, 111, 117, 115, 101, 59]
def tx_pw : List Nat := [112, 114, 111, 100, 117, 99, 116, 32, 112]
def tx_bw : List Nat := [98, 97, 116, 99, 104, 32, 112]
theorem tx_W_eq : (List.range (mm_sn 14)).map (mm_sT 14) = tx_W := by decide +kernel
theorem tx_pw_eq : (List.range (mm_sn 15)).map (mm_sT 15) = tx_pw := by decide +kernel
theorem tx_bw_eq : (List.range (mm_sn 16)).map (mm_sT 16) = tx_bw := by decide +kernel
/-- a product's entry, the entries from i on -/
def tx_p (i x : Nat) : List Nat := tx_pw ++ [97 + i] ++ [32] ++ tx_D x ++ [59]
def tx_P (f : Nat → Nat) : Nat → Nat → List Nat
  | _, 0 => []
  | i, d + 1 => tx_p i (f i) ++ tx_P f (i + 1) d
/-- a batch's entry, the entries from i on -/
def tx_b (P z : Nat) : List Nat := tx_bw ++ [97 + z % P] ++ [32] ++ tx_D (1 + z / 8 % 20) ++ [32] ++ tx_D (z / 256 % 16) ++ [32] ++ tx_D (1 + z / 8192 % 30) ++ [59]
def tx_B (P : Nat) (f : Nat → Nat) : Nat → Nat → List Nat
  | _, 0 => []
  | i, d + 1 => tx_b P (f i) ++ tx_B P f (i + 1) d
theorem tx_p_len (i x : Nat) : (tx_p i x).length ≤ 14 := by
  have := tx_D_len x
  unfold tx_p
  simp only [List.length_append, List.length_cons, List.length_nil]
  have h1 : tx_pw.length = 9 := rfl
  omega
theorem tx_b_len (P z : Nat) : (tx_b P z).length ≤ 18 := by
  have h1 := tx_D_len (1 + z / 8 % 20)
  have h2 := tx_D_len (z / 256 % 16)
  have h3 := tx_D_len (1 + z / 8192 % 30)
  unfold tx_b
  simp only [List.length_append, List.length_cons, List.length_nil]
  have h4 : tx_bw.length = 7 := rfl
  omega
theorem sb_Lr (W : sb_L h0 g m l h) (k b : Nat) : lp h k b = lp h0 k b := lp_eq W.2.2.2.1
theorem sr_L36 : ("BatchWarehouseLaw", 36, "warehouse;", 14) ∈ mm_srl := List.mem_of_getElem? (i := 14) rfl
theorem sr_L41 : ("BatchWarehouseLaw", 41, "product p", 15) ∈ mm_srl := List.mem_of_getElem? (i := 15) rfl
theorem sr_L57 : ("BatchWarehouseLaw", 57, "batch p", 16) ∈ mm_srl := List.mem_of_getElem? (i := 16) rfl
/-- the products -/
theorem rL_setup_L1 {P B : Nat} (hP : P ≤ 4) {z : mm_H} : ∀ (d i : Nat) (l : List Nat) (h : mm_H) (g m : Nat), i + d = P → sb_L h0 g m l h → l.length + 14 * d ≤ 100 → ∃ h' g' m', sb_L h0 g' m' (l ++ tx_P (fun k => lp h0 (2 + k) 40) i d) h' ∧ ∀ (o : Option (Nat × mm_H)), mm_E2 mm_K mm_K mL_setup 64 [some (.ref 400), some (.int (nI P)), some (.int (nI B)), some (.ref 352), some (.int (nI P)), none] [] h' o lf_ae → mm_E2 mm_K mm_K mL_setup 13 [some (.ref 400), some (.int (nI P)), some (.int (nI B)), some (.ref 352), some (.int (nI i)), none] [] h o lf_ae := by
  intro d
  induction d with
  | zero =>
    intro i l h g m hd W hl
    refine ⟨h, g, m, by rw [tx_P, List.append_nil]; exact W, fun o K => ?_⟩
    obtain rfl : i = P := by omega
    refine me_iload (pc' := 15) (i := 4) dL_setup_13 rfl rfl ?_
    refine me_iload_n (pc' := 16) (i := 1) dL_setup_15 rfl rfl rfl ?_
    refine mm_neg (c := nI i < nI i) (o2 := none) (nI_nlt (Nat.le_refl i) (by omega)) (me_icmp_ge (pc' := 19) (tgt := 64) dL_setup_16 (by decide) rfl (fun _ => ?_) (fun c9 => absurd c9 (nI_nlt (Nat.le_refl i) (by omega))))
    exact K
  | succ d ih =>
    intro i l h g m hd W hl
    have hlen := tx_p_len i (lp h0 (2 + i) 40)
    have hx : lp h0 (2 + i) 40 < 40 := lp_lt (by decide)
    have hy := tx_D_len (lp h0 (2 + i) 40)
    have hp9 : tx_pw.length = 9 := rfl
    have hs9 : mm_sn 15 = 9 := rfl
    obtain ⟨h1, g1, m1, W1, r1⟩ := rJ4_LS (i := 15) (by decide) mm_sT15 tx_pw_eq (by decide) W (by omega)
    obtain ⟨h2, g2, m2, W2, r2⟩ := rJ4_LC (c := 97 + i) (by omega) W1 (by simp only [List.length_append, List.length_cons, List.length_nil]; omega)
    obtain ⟨h3, g3, m3, W3, r3⟩ := rJ4_LC (c := 32) (by omega) W2 (by simp only [List.length_append, List.length_cons, List.length_nil]; omega)
    obtain ⟨h4, g4, m4, W4, r4⟩ := rJ4_LI (v := lp h0 (2 + i) 40) (by omega) W3 (by simp only [List.length_append, List.length_cons, List.length_nil]; omega)
    obtain ⟨h5, g5, m5, W5, r5⟩ := rJ4_LC (c := 59) (by omega) W4 (by simp only [List.length_append, List.length_cons, List.length_nil]; omega)
    have e5 : l ++ tx_pw ++ [97 + i] ++ [32] ++ tx_D (lp h0 (2 + i) 40) ++ [59] = l ++ tx_p i (lp h0 (2 + i) 40) := by simp only [tx_p, List.append_assoc]
    rw [e5] at W5
    obtain ⟨h6, g6, m6, W6, K6⟩ := ih (i + 1) _ h5 g5 m5 (by omega) W5 (by rw [List.length_append]; omega)
    refine ⟨h6, g6, m6, by rw [tx_P, ← List.append_assoc]; exact W6, fun o K => ?_⟩
    refine me_iload (pc' := 15) (i := 4) dL_setup_13 rfl rfl ?_
    refine me_iload_n (pc' := 16) (i := 1) dL_setup_15 rfl rfl rfl ?_
    refine mm_pos (c := nI i < nI P) (o2 := none) (nI_lt (show i < P by omega) (by omega)) (me_icmp_ge (pc' := 19) (tgt := 64) dL_setup_16 (by decide) rfl (fun c9 => absurd (nI_lt (show i < P by omega) (by omega)) c9) (fun _ => ?_))
    refine me_aload_n (pc' := 20) (i := 3) dL_setup_19 rfl rfl rfl ?_
    refine me_ldc (pc' := 22) (i := 15) (q := mm_NN + 1 + 15) dL_setup_20 rfl sr_L41 rfl ?_
    refine me_callVt (As := [.ref (mm_NN + 1 + 15)]) (st := []) (F' := mm_K) (G' := mm_K) (F'' := mm_K) (pc' := 25) dL_setup_22 rfl mfJ4_append_15ec4 rfl lkL_43 (fun _ => sb_k W) rfl (fun _ => sb_l W) ⟨Nat.le_of_ble_eq_true rfl, Nat.le_of_ble_eq_true rfl⟩ (Nat.le_of_ble_eq_true rfl) (fun z => z) r1 rfl (fun z => z) ?_
    show mm_E2 _ _ _ _ _ [.ref 352] h1 _ _
    refine me_bipush (pc' := 27) (v := 97) dL_setup_25 rfl kc_b97 ?_
    refine me_iload (pc' := 29) (i := 4) dL_setup_27 rfl rfl ?_
    refine me_iadd (pc' := 30) dL_setup_29 rfl ?_
    rw [show ((97 + (nI i)) : Int32) = nI (97 + i) from nI_add 97 i]
    refine me_i2c (v := nI (97 + i)) (pc' := 31) dL_setup_30 rfl (sb_byte (97 + i) (by omega)).2.1 ?_
    refine me_callVt (As := [.int (nI (97 + i))]) (st := []) (F' := mm_K) (G' := mm_K) (F'' := mm_K) (pc' := 34) dL_setup_31 rfl mfJ4_append_cf468 rfl lkL_46 (fun _ => sb_k W1) rfl (fun _ => sb_l W1) ⟨Nat.le_of_ble_eq_true rfl, Nat.le_of_ble_eq_true rfl⟩ (Nat.le_of_ble_eq_true rfl) (fun z => z) r2 rfl (fun z => z) ?_
    show mm_E2 _ _ _ _ _ [.ref 352] h2 _ _
    refine me_bipush (pc' := 36) (v := 32) dL_setup_34 rfl kc_b32 ?_
    refine me_callVt (As := [.int 32]) (st := []) (F' := mm_K) (G' := mm_K) (F'' := mm_K) (pc' := 39) dL_setup_36 rfl mfJ4_append_cf468 rfl lkL_46 (fun _ => sb_k W2) rfl (fun _ => sb_l W2) ⟨Nat.le_of_ble_eq_true rfl, Nat.le_of_ble_eq_true rfl⟩ (Nat.le_of_ble_eq_true rfl) (fun z => z) r3 rfl (fun z => z) ?_
    show mm_E2 _ _ _ _ _ [.ref 352] h3 _ _
    refine me_aload_n (pc' := 40) (i := 0) dL_setup_39 rfl rfl rfl ?_
    refine me_iconst (pc' := 41) (v := 2) dL_setup_40 rfl kc_i2 ?_
    refine me_iload (pc' := 43) (i := 4) dL_setup_41 rfl rfl ?_
    refine me_iadd (pc' := 44) dL_setup_43 rfl ?_
    rw [show ((2 + (nI i)) : Int32) = nI (2 + i) from nI_add 2 i]
    refine me_bipush (pc' := 46) (v := 40) dL_setup_44 rfl kc_b40 ?_
    refine me_callSt (As := [.ref 400, .int (nI (2 + i)), .int 40]) (st := [.ref 352]) (F' := mm_K) (G' := mm_K) (F'' := mm_K) (pc' := 49) dL_setup_46 rfl mfL_pick rfl lkL_49 ⟨Nat.le_of_ble_eq_true rfl, Nat.le_of_ble_eq_true rfl⟩ (Nat.le_of_ble_eq_true rfl) (fun z => z) (rL_pickN (k := 2 + i) (b := 40) (by omega) (by decide) (by decide) h3) rfl (fun z => z) ?_
    show mm_E2 _ _ _ _ _ [.int (nI (lp h3 (2 + i) 40)), .ref 352] h3 _ _
    rw [show ((nI (lp h3 (2 + i) 40)) : Int32) = nI (lp h0 (2 + i) 40) from by rw [sb_Lr W3 _ _]]
    refine me_callVt (As := [.int (nI (lp h0 (2 + i) 40))]) (st := []) (F' := mm_K) (G' := mm_K) (F'' := mm_K) (pc' := 52) dL_setup_49 rfl mfJ4_append_bf812 rfl lkL_53 (fun _ => sb_k W3) rfl (fun _ => sb_l W3) ⟨Nat.le_of_ble_eq_true rfl, Nat.le_of_ble_eq_true rfl⟩ (Nat.le_of_ble_eq_true rfl) (fun z => z) r4 rfl (fun z => z) ?_
    show mm_E2 _ _ _ _ _ [.ref 352] h4 _ _
    refine me_bipush (pc' := 54) (v := 59) dL_setup_52 rfl kc_b59 ?_
    refine me_callVt (As := [.int 59]) (st := []) (F' := mm_K) (G' := mm_K) (F'' := mm_K) (pc' := 57) dL_setup_54 rfl mfJ4_append_cf468 rfl lkL_46 (fun _ => sb_k W4) rfl (fun _ => sb_l W4) ⟨Nat.le_of_ble_eq_true rfl, Nat.le_of_ble_eq_true rfl⟩ (Nat.le_of_ble_eq_true rfl) (fun z => z) r5 rfl (fun z => z) ?_
    show mm_E2 _ _ _ _ _ [.ref 352] h5 _ _
    refine me_pop (v := .ref 352) (pc' := 58) dL_setup_57 rfl rfl ?_
    refine me_iinc (pc' := 61) (i := 4) (y := (nI (i + 1))) (L' := [some (.ref 400), some (.int (nI P)), some (.int (nI B)), some (.ref 352), some (.int (nI (i + 1))), none]) dL_setup_58 rfl (Nat.le_of_ble_eq_true rfl) (Nat.le_of_ble_eq_true rfl) rfl (show nI i + Int32.ofInt 1 = nI (i + 1) from nI_add i 1) rfl ?_
    refine me_goto (tgt := 13) dL_setup_61 (by decide) ?_
    exact K6 o K
/-- the batches -/
theorem rL_setup_L2 {P B : Nat} (hP0 : 0 < P) (hP : P ≤ 4) (hB : B ≤ 9) : ∀ (d i : Nat) (l : List Nat) (h : mm_H) (g m : Nat) (x5 : Option Value), i + d = B → sb_L h0 g m l h → l.length + 18 * d ≤ 280 → ∃ h' g' m', sb_L h0 g' m' (l ++ tx_B P (fun k => lp h0 (7 + k) 268435456) i d) h' ∧ ∀ (o : Option (Nat × mm_H)), (∀ y5 : Option Value, mm_E2 mm_K mm_K mL_setup 169 [some (.ref 400), some (.int (nI P)), some (.int (nI B)), some (.ref 352), some (.int (nI B)), y5] [] h' o lf_ae) → mm_E2 mm_K mm_K mL_setup 67 [some (.ref 400), some (.int (nI P)), some (.int (nI B)), some (.ref 352), some (.int (nI i)), x5] [] h o lf_ae := by
  intro d
  induction d with
  | zero =>
    intro i l h g m x5 hd W hl
    refine ⟨h, g, m, by rw [tx_B, List.append_nil]; exact W, fun o K => ?_⟩
    obtain rfl : i = B := by omega
    refine me_iload (pc' := 69) (i := 4) dL_setup_67 rfl rfl ?_
    refine me_iload_n (pc' := 70) (i := 2) dL_setup_69 rfl rfl rfl ?_
    refine mm_neg (c := nI i < nI i) (o2 := none) (nI_nlt (Nat.le_refl i) (by omega)) (me_icmp_ge (pc' := 73) (tgt := 169) dL_setup_70 (by decide) rfl (fun _ => ?_) (fun c9 => absurd c9 (nI_nlt (Nat.le_refl i) (by omega))))
    exact K x5
  | succ d ih =>
    intro i l h g m x5 hd W hl
    have hz : lp h0 (7 + i) 268435456 < 268435456 := lp_lt (by decide)
    generalize hZ : lp h0 (7 + i) 268435456 = z at *
    have hlen := tx_b_len P z
    have hmP : z % P < P := Nat.mod_lt _ hP0
    have hd1 := tx_D_len (1 + z / 8 % 20)
    have hd2 := tx_D_len (z / 256 % 16)
    have hd3 := tx_D_len (1 + z / 8192 % 30)
    have hp9 : tx_bw.length = 7 := rfl
    have hs9 : mm_sn 16 = 7 := rfl
    obtain ⟨h1, g1, m1, W1, r1⟩ := rJ4_LS (i := 16) (by decide) mm_sT16 tx_bw_eq (by decide) W (by omega)
    obtain ⟨h2, g2, m2, W2, r2⟩ := rJ4_LC (c := 97 + z % P) (by omega) W1 (by simp only [List.length_append, List.length_cons, List.length_nil]; omega)
    obtain ⟨h3, g3, m3, W3, r3⟩ := rJ4_LC (c := 32) (by omega) W2 (by simp only [List.length_append, List.length_cons, List.length_nil]; omega)
    obtain ⟨h4, g4, m4, W4, r4⟩ := rJ4_LI (v := 1 + z / 8 % 20) (by omega) W3 (by simp only [List.length_append, List.length_cons, List.length_nil]; omega)
    obtain ⟨h5, g5, m5, W5, r5⟩ := rJ4_LC (c := 32) (by omega) W4 (by simp only [List.length_append, List.length_cons, List.length_nil]; omega)
    obtain ⟨h6, g6, m6, W6, r6⟩ := rJ4_LI (v := z / 256 % 16) (by omega) W5 (by simp only [List.length_append, List.length_cons, List.length_nil]; omega)
    obtain ⟨h7, g7, m7, W7, r7⟩ := rJ4_LC (c := 32) (by omega) W6 (by simp only [List.length_append, List.length_cons, List.length_nil]; omega)
    obtain ⟨h8, g8, m8, W8, r8⟩ := rJ4_LI (v := 1 + z / 8192 % 30) (by omega) W7 (by simp only [List.length_append, List.length_cons, List.length_nil]; omega)
    obtain ⟨h9, g9, m9, W9, r9⟩ := rJ4_LC (c := 59) (by omega) W8 (by simp only [List.length_append, List.length_cons, List.length_nil]; omega)
    have e9 : l ++ tx_bw ++ [97 + z % P] ++ [32] ++ tx_D (1 + z / 8 % 20) ++ [32] ++ tx_D (z / 256 % 16) ++ [32] ++ tx_D (1 + z / 8192 % 30) ++ [59] = l ++ tx_b P z := by simp only [tx_b, List.append_assoc]
    rw [e9] at W9
    obtain ⟨hh, gg, mm, WW, KK⟩ := ih (i + 1) _ h9 g9 m9 (some (.int (nI z))) (by omega) W9 (by rw [List.length_append]; omega)
    refine ⟨hh, gg, mm, by rw [tx_B, hZ, ← List.append_assoc]; exact WW, fun o K => ?_⟩
    refine me_iload (pc' := 69) (i := 4) dL_setup_67 rfl rfl ?_
    refine me_iload_n (pc' := 70) (i := 2) dL_setup_69 rfl rfl rfl ?_
    refine mm_pos (c := nI i < nI B) (o2 := none) (nI_lt (show i < B by omega) (by omega)) (me_icmp_ge (pc' := 73) (tgt := 169) dL_setup_70 (by decide) rfl (fun c9 => absurd (nI_lt (show i < B by omega) (by omega)) c9) (fun _ => ?_))
    refine me_aload_n (pc' := 74) (i := 0) dL_setup_73 rfl rfl rfl ?_
    refine me_bipush (pc' := 76) (v := 7) dL_setup_74 rfl kc_b7 ?_
    refine me_iload (pc' := 78) (i := 4) dL_setup_76 rfl rfl ?_
    refine me_iadd (pc' := 79) dL_setup_78 rfl ?_
    rw [show ((7 + (nI i)) : Int32) = nI (7 + i) from nI_add 7 i]
    refine me_ldcI (pc' := 81) (v := 268435456) dL_setup_79 rfl (mm_gw_of (List.mem_of_getElem? (i := 1187) (by decide +kernel)) rfl) ?_
    refine me_callSt (As := [.ref 400, .int (nI (7 + i)), .int 268435456]) (st := []) (F' := mm_K) (G' := mm_K) (F'' := mm_K) (pc' := 84) dL_setup_81 rfl mfL_pick rfl lkL_49 ⟨Nat.le_of_ble_eq_true rfl, Nat.le_of_ble_eq_true rfl⟩ (Nat.le_of_ble_eq_true rfl) (fun z => z) (rL_pickN (k := 7 + i) (b := 268435456) (by omega) (by decide) (by decide) h) rfl (fun z => z) ?_
    show mm_E2 _ _ _ _ _ [.int (nI (lp h (7 + i) 268435456))] h _ _
    rw [show ((nI (lp h (7 + i) 268435456)) : Int32) = nI z from by rw [sb_Lr W, hZ]]
    refine me_istore (pc' := 86) (i := 5) (L' := [some (.ref 400), some (.int (nI P)), some (.int (nI B)), some (.ref 352), some (.int (nI i)), some (.int (nI z))]) dL_setup_84 rfl (Nat.le_of_ble_eq_true rfl) (Nat.le_of_ble_eq_true rfl) rfl ?_
    refine me_aload_n (pc' := 87) (i := 3) dL_setup_86 rfl rfl rfl ?_
    refine me_ldc (pc' := 89) (i := 16) (q := mm_NN + 1 + 16) dL_setup_87 rfl sr_L57 rfl ?_
    refine me_callVt (As := [.ref (mm_NN + 1 + 16)]) (st := []) (F' := mm_K) (G' := mm_K) (F'' := mm_K) (pc' := 92) dL_setup_89 rfl mfJ4_append_15ec4 rfl lkL_43 (fun _ => sb_k W) rfl (fun _ => sb_l W) ⟨Nat.le_of_ble_eq_true rfl, Nat.le_of_ble_eq_true rfl⟩ (Nat.le_of_ble_eq_true rfl) (fun z => z) r1 rfl (fun z => z) ?_
    show mm_E2 _ _ _ _ _ [.ref 352] h1 _ _
    refine me_bipush (pc' := 94) (v := 97) dL_setup_92 rfl kc_b97 ?_
    refine me_iload (pc' := 96) (i := 5) dL_setup_94 rfl rfl ?_
    refine me_iload_n (pc' := 97) (i := 1) dL_setup_96 rfl rfl rfl ?_
    refine me_irem (pc' := 98) dL_setup_97 rfl (fun z9 => by have := (nI_eq (a := P) (b := 0) (by omega) (by decide)).mp z9; omega) ?_
    rw [show (((nI z) - (nI z) / (nI P) * (nI P)) : Int32) = nI (z % P) from pk_rem (a := z) (d := P) (by omega) hP0 (by omega)]
    refine me_iadd (pc' := 99) dL_setup_98 rfl ?_
    rw [show ((97 + (nI (z % P))) : Int32) = nI (97 + z % P) from nI_add 97 (z % P)]
    refine me_i2c (v := nI (97 + z % P)) (pc' := 100) dL_setup_99 rfl (sb_byte (97 + z % P) (by omega)).2.1 ?_
    refine me_callVt (As := [.int (nI (97 + z % P))]) (st := []) (F' := mm_K) (G' := mm_K) (F'' := mm_K) (pc' := 103) dL_setup_100 rfl mfJ4_append_cf468 rfl lkL_46 (fun _ => sb_k W1) rfl (fun _ => sb_l W1) ⟨Nat.le_of_ble_eq_true rfl, Nat.le_of_ble_eq_true rfl⟩ (Nat.le_of_ble_eq_true rfl) (fun z => z) r2 rfl (fun z => z) ?_
    show mm_E2 _ _ _ _ _ [.ref 352] h2 _ _
    refine me_bipush (pc' := 105) (v := 32) dL_setup_103 rfl kc_b32 ?_
    refine me_callVt (As := [.int 32]) (st := []) (F' := mm_K) (G' := mm_K) (F'' := mm_K) (pc' := 108) dL_setup_105 rfl mfJ4_append_cf468 rfl lkL_46 (fun _ => sb_k W2) rfl (fun _ => sb_l W2) ⟨Nat.le_of_ble_eq_true rfl, Nat.le_of_ble_eq_true rfl⟩ (Nat.le_of_ble_eq_true rfl) (fun z => z) r3 rfl (fun z => z) ?_
    show mm_E2 _ _ _ _ _ [.ref 352] h3 _ _
    refine me_iconst (pc' := 109) (v := 1) dL_setup_108 rfl kc_i1 ?_
    refine me_iload (pc' := 111) (i := 5) dL_setup_109 rfl rfl ?_
    refine me_bipush (pc' := 113) (v := 8) dL_setup_111 rfl kc_b8 ?_
    refine me_idiv (pc' := 114) dL_setup_113 rfl (by decide) ?_
    rw [show (((nI z) / 8) : Int32) = nI (z / 8) from pk_div (a := z) (d := 8) (by omega) (by decide) (by decide)]
    refine me_bipush (pc' := 116) (v := 20) dL_setup_114 rfl kc_b20 ?_
    refine me_irem (pc' := 117) dL_setup_116 rfl (by decide) ?_
    rw [show (((nI (z / 8)) - (nI (z / 8)) / 20 * 20) : Int32) = nI ((z / 8) % 20) from pk_rem (a := (z / 8)) (d := 20) (by omega) (by decide) (by decide)]
    refine me_iadd (pc' := 118) dL_setup_117 rfl ?_
    rw [show ((1 + (nI ((z / 8) % 20))) : Int32) = nI (1 + z / 8 % 20) from nI_add 1 _]
    refine me_callVt (As := [.int (nI (1 + z / 8 % 20))]) (st := []) (F' := mm_K) (G' := mm_K) (F'' := mm_K) (pc' := 121) dL_setup_118 rfl mfJ4_append_bf812 rfl lkL_53 (fun _ => sb_k W3) rfl (fun _ => sb_l W3) ⟨Nat.le_of_ble_eq_true rfl, Nat.le_of_ble_eq_true rfl⟩ (Nat.le_of_ble_eq_true rfl) (fun z => z) r4 rfl (fun z => z) ?_
    show mm_E2 _ _ _ _ _ [.ref 352] h4 _ _
    refine me_bipush (pc' := 123) (v := 32) dL_setup_121 rfl kc_b32 ?_
    refine me_callVt (As := [.int 32]) (st := []) (F' := mm_K) (G' := mm_K) (F'' := mm_K) (pc' := 126) dL_setup_123 rfl mfJ4_append_cf468 rfl lkL_46 (fun _ => sb_k W4) rfl (fun _ => sb_l W4) ⟨Nat.le_of_ble_eq_true rfl, Nat.le_of_ble_eq_true rfl⟩ (Nat.le_of_ble_eq_true rfl) (fun z => z) r5 rfl (fun z => z) ?_
    show mm_E2 _ _ _ _ _ [.ref 352] h5 _ _
    refine me_iload (pc' := 128) (i := 5) dL_setup_126 rfl rfl ?_
    refine me_sipush (pc' := 131) (v := 256) dL_setup_128 rfl kc_s256 ?_
    refine me_idiv (pc' := 132) dL_setup_131 rfl (by decide) ?_
    rw [show (((nI z) / 256) : Int32) = nI (z / 256) from pk_div (a := z) (d := 256) (by omega) (by decide) (by decide)]
    refine me_bipush (pc' := 134) (v := 16) dL_setup_132 rfl kc_b16 ?_
    refine me_irem (pc' := 135) dL_setup_134 rfl (by decide) ?_
    rw [show (((nI (z / 256)) - (nI (z / 256)) / 16 * 16) : Int32) = nI ((z / 256) % 16) from pk_rem (a := (z / 256)) (d := 16) (by omega) (by decide) (by decide)]
    refine me_callVt (As := [.int (nI ((z / 256) % 16))]) (st := []) (F' := mm_K) (G' := mm_K) (F'' := mm_K) (pc' := 138) dL_setup_135 rfl mfJ4_append_bf812 rfl lkL_53 (fun _ => sb_k W5) rfl (fun _ => sb_l W5) ⟨Nat.le_of_ble_eq_true rfl, Nat.le_of_ble_eq_true rfl⟩ (Nat.le_of_ble_eq_true rfl) (fun z => z) r6 rfl (fun z => z) ?_
    show mm_E2 _ _ _ _ _ [.ref 352] h6 _ _
    refine me_bipush (pc' := 140) (v := 32) dL_setup_138 rfl kc_b32 ?_
    refine me_callVt (As := [.int 32]) (st := []) (F' := mm_K) (G' := mm_K) (F'' := mm_K) (pc' := 143) dL_setup_140 rfl mfJ4_append_cf468 rfl lkL_46 (fun _ => sb_k W6) rfl (fun _ => sb_l W6) ⟨Nat.le_of_ble_eq_true rfl, Nat.le_of_ble_eq_true rfl⟩ (Nat.le_of_ble_eq_true rfl) (fun z => z) r7 rfl (fun z => z) ?_
    show mm_E2 _ _ _ _ _ [.ref 352] h7 _ _
    refine me_iconst (pc' := 144) (v := 1) dL_setup_143 rfl kc_i1 ?_
    refine me_iload (pc' := 146) (i := 5) dL_setup_144 rfl rfl ?_
    refine me_sipush (pc' := 149) (v := 8192) dL_setup_146 rfl kc_s8192 ?_
    refine me_idiv (pc' := 150) dL_setup_149 rfl (by decide) ?_
    rw [show (((nI z) / 8192) : Int32) = nI (z / 8192) from pk_div (a := z) (d := 8192) (by omega) (by decide) (by decide)]
    refine me_bipush (pc' := 152) (v := 30) dL_setup_150 rfl kc_b30 ?_
    refine me_irem (pc' := 153) dL_setup_152 rfl (by decide) ?_
    rw [show (((nI (z / 8192)) - (nI (z / 8192)) / 30 * 30) : Int32) = nI ((z / 8192) % 30) from pk_rem (a := (z / 8192)) (d := 30) (by omega) (by decide) (by decide)]
    refine me_iadd (pc' := 154) dL_setup_153 rfl ?_
    rw [show ((1 + (nI ((z / 8192) % 30))) : Int32) = nI (1 + z / 8192 % 30) from nI_add 1 _]
    refine me_callVt (As := [.int (nI (1 + z / 8192 % 30))]) (st := []) (F' := mm_K) (G' := mm_K) (F'' := mm_K) (pc' := 157) dL_setup_154 rfl mfJ4_append_bf812 rfl lkL_53 (fun _ => sb_k W7) rfl (fun _ => sb_l W7) ⟨Nat.le_of_ble_eq_true rfl, Nat.le_of_ble_eq_true rfl⟩ (Nat.le_of_ble_eq_true rfl) (fun z => z) r8 rfl (fun z => z) ?_
    show mm_E2 _ _ _ _ _ [.ref 352] h8 _ _
    refine me_bipush (pc' := 159) (v := 59) dL_setup_157 rfl kc_b59 ?_
    refine me_callVt (As := [.int 59]) (st := []) (F' := mm_K) (G' := mm_K) (F'' := mm_K) (pc' := 162) dL_setup_159 rfl mfJ4_append_cf468 rfl lkL_46 (fun _ => sb_k W8) rfl (fun _ => sb_l W8) ⟨Nat.le_of_ble_eq_true rfl, Nat.le_of_ble_eq_true rfl⟩ (Nat.le_of_ble_eq_true rfl) (fun z => z) r9 rfl (fun z => z) ?_
    show mm_E2 _ _ _ _ _ [.ref 352] h9 _ _
    refine me_pop (v := .ref 352) (pc' := 163) dL_setup_162 rfl rfl ?_
    refine me_iinc (pc' := 166) (i := 4) (y := (nI (i + 1))) (L' := [some (.ref 400), some (.int (nI P)), some (.int (nI B)), some (.ref 352), some (.int (nI (i + 1))), some (.int (nI z))]) dL_setup_163 rfl (Nat.le_of_ble_eq_true rfl) (Nat.le_of_ble_eq_true rfl) rfl (show nI i + Int32.ofInt 1 = nI (i + 1) from nI_add i 1) rfl ?_
    refine me_goto (tgt := 67) dL_setup_166 (by decide) ?_
    exact KK o K
/-- the text of the setup -/
def tx_all (h : mm_H) (P B : Nat) : List Nat := tx_W ++ tx_P (fun k => lp h (2 + k) 40) 0 P ++ tx_B P (fun k => lp h (7 + k) 268435456) 0 B
theorem tx_P_len (f : Nat → Nat) : ∀ d i, (tx_P f i d).length ≤ 14 * d
  | 0, _ => Nat.le_refl 0
  | d + 1, i => by
    have h1 := tx_p_len i (f i)
    have h2 := tx_P_len f d (i + 1)
    rw [tx_P, List.length_append]
    omega
theorem tx_B_len (P : Nat) (f : Nat → Nat) : ∀ d i, (tx_B P f i d).length ≤ 18 * d
  | 0, _ => Nat.le_refl 0
  | d + 1, i => by
    have h1 := tx_b_len P (f i)
    have h2 := tx_B_len P f d (i + 1)
    rw [tx_B, List.length_append]
    omega
theorem sb_BK (h1 : mh_n h = 352) (h2 : mh_c h = 352) (h3 : ∀ o, 352 ≤ o → o < 400 → ∀ k, mh_I h o k = 0) : sb_B h (ms_K h 4 0 12) := by
  refine ⟨⟨⟨show mh_n h + 1 = 353 by omega, show mh_c h + 1 = 353 by omega, Nat.le_refl _⟩, ?_, h3 352 (by decide) (by decide) 3⟩, fun o _ => ⟨rfl, rfl⟩, fun _ => rfl, fun o h4 h5 => h3 o (by omega) h5⟩
  rw [← h1]
  constructor
  · show (if mh_n h = mh_n h then (if 0 = 0 then 0 else _) else _) = 0
    rw [if_pos rfl, if_pos rfl]
  · show (if mh_n h = mh_n h then (if 1 = 0 then 0 else if 1 = 1 then 12 else 0) else _) = 12
    rw [if_pos rfl, if_neg (by decide), if_pos rfl]
theorem rL_setup {P B : Nat} (hP0 : 0 < P) (hP : P ≤ 4) (hB : B ≤ 9) (h1 : mh_n h = 352) (h2 : mh_c h = 352) (h3 : ∀ o, 352 ≤ o → o < 400 → ∀ k, mh_I h o k = 0) : ∃ h' g m, sb_L h g m (tx_all h P B) h' ∧ mm_R2 mm_K mm_K mL_setup [.ref 400, .int (nI P), .int (nI B)] h (some (354 + g, ms_Z h' g (tx_all h P B).length)) lf_ae := by
  have hs9 : mm_sn 14 = 10 := rfl
  have hw9 : tx_W.length = 10 := rfl
  obtain ⟨ha, ga, ma, Wa, ra⟩ := rJ4_init (i := 14) (by decide) mm_sT14 rfl (sb_BK h1 h2 h3)
  have Wa' : sb_L h ga ma tx_W ha := by
    have := sb_Lapp (l := []) Wa
    rw [tx_W_eq] at this
    exact this
  obtain ⟨hb, gb, mb, Wb, Kb⟩ := rL_setup_L1 (h0 := h) (P := P) (B := B) (z := h) hP P 0 tx_W ha ga ma (by omega) Wa' (by omega)
  have hlP := tx_P_len (fun k => lp h (2 + k) 40) P 0
  obtain ⟨hc, gc, mc, Wc, Kc⟩ := rL_setup_L2 (h0 := h) (P := P) (B := B) hP0 hP hB B 0 _ hb gb mb none (by omega) Wb (by rw [List.length_append]; omega)
  refine ⟨hc, gc, mc, Wc, ?_⟩
  refine mm_body (L := [some (.ref 400), some (.int (nI P)), some (.int (nI B)), none, none, none]) rfl (by decide +kernel) (Nat.le_of_ble_eq_true rfl) rfl ?_
  refine me_newK (F' := mm_K) (pc' := 3) (N := 4) (by omega) (show mh_n h < 400 by omega) dL_setup_0 rfl nkL_34 rfl (fun z => z) (fun z => mm_K_K z) ?_
  rw [h1]
  refine me_dup (pc' := 4) dL_setup_3 rfl rfl ?_
  refine me_ldc (pc' := 6) (i := 14) (q := mm_NN + 1 + 14) dL_setup_4 rfl sr_L36 rfl ?_
  refine me_callIt (As := [.ref (mm_NN + 1 + 14)]) (st := [.ref 352]) (F' := mm_K) (G' := mm_K) (F'' := mm_K) (pc' := 9) dL_setup_6 rfl mfJ4_init_a7421 rfl lkL_38 ⟨Nat.le_of_ble_eq_true rfl, Nat.le_of_ble_eq_true rfl⟩ (Nat.le_of_ble_eq_true rfl) (fun z => z) ra rfl (fun z => z) ?_
  show mm_E2 _ _ _ _ _ [.ref 352] ha _ _
  refine me_astore_n (pc' := 10) (i := 3) (L' := [some (.ref 400), some (.int (nI P)), some (.int (nI B)), some (.ref 352), none, none]) dL_setup_9 rfl rfl (Nat.le_of_ble_eq_true rfl) (Nat.le_of_ble_eq_true rfl) rfl ?_
  refine me_iconst (pc' := 11) (v := 0) dL_setup_10 rfl kc_i0 ?_
  refine me_istore (pc' := 13) (i := 4) (L' := [some (.ref 400), some (.int (nI P)), some (.int (nI B)), some (.ref 352), some (.int 0), none]) dL_setup_11 rfl (Nat.le_of_ble_eq_true rfl) (Nat.le_of_ble_eq_true rfl) rfl ?_
  refine Kb _ ?_
  refine me_iconst (pc' := 65) (v := 0) dL_setup_64 rfl kc_i0 ?_
  refine me_istore (pc' := 67) (i := 4) (L' := [some (.ref 400), some (.int (nI P)), some (.int (nI B)), some (.ref 352), some (.int 0), none]) dL_setup_65 rfl (Nat.le_of_ble_eq_true rfl) (Nat.le_of_ble_eq_true rfl) rfl ?_
  refine Kc _ (fun y5 => ?_)
  refine me_aload_n (pc' := 170) (i := 3) dL_setup_169 rfl rfl rfl ?_
  refine me_callVt (As := []) (st := []) (F' := mm_K) (G' := mm_K) (F'' := mm_K) (pc' := 173) dL_setup_170 rfl mfJ4_toString_0e30d rfl lkL_59 (fun _ => sb_k Wc) rfl (fun _ => sb_l Wc) ⟨Nat.le_of_ble_eq_true rfl, Nat.le_of_ble_eq_true rfl⟩ (Nat.le_of_ble_eq_true rfl) (fun z => z) (rJ4_toString Wc) rfl (fun z => z) ?_
  show mm_E2 _ _ _ _ _ [.ref (354 + gc)] (ms_Z hc gc (tx_all h P B).length) _ _
  exact me_aret dL_setup_173 rfl (fun z => z) rfl
end MMSU

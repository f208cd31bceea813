section MMJ
/-! what the printed walks stand on -/
def lf_i (h : mm_H) : Int32 → mm_O := fun v => (.inl (some (.int v)), h)
def lf_z (h : mm_H) : Bool → mm_O := fun v => (.inl (some (.int (mx_bi v))), h)
def lf_a (h : mm_H) : Nat → mm_O := fun v => (.inl (some (.ref v)), h)
def lf_s (h : mm_H) : Nat → mm_O := fun v => (.inl (some (.ref (401 + v))), h)
def lf_ae : Nat × mm_H → mm_O := fun x => (.inl (some (.ref x.1)), x.2)
def lf_v : mm_H → mm_O := fun h => (.inl none, h)
def lf_ie : Int32 × mm_H → mm_O := fun x => (.inl (some (.int x.1)), x.2)
def lf_ze : Bool × mm_H → mm_O := fun x => (.inl (some (.int (mx_bi x.1))), x.2)
def lf_vt : (Unit ⊕ String) × mm_H → mm_O := fun x => (match x.1 with | .inl _ => .inl none | .inr e => .inr e, x.2)
def lf_it : (Int32 ⊕ String) × mm_H → mm_O := fun x => (match x.1 with | .inl v => .inl (some (.int v)) | .inr e => .inr e, x.2)
def lf_zt : (Bool ⊕ String) × mm_H → mm_O := fun x => (match x.1 with | .inl v => .inl (some (.int (mx_bi v))) | .inr e => .inr e, x.2)
/-- enough turns of any loop -/
def mm_F : Nat := 100000
/-- what stays while methods run: how many objects there are, where the references of 0 .. 351 point, kinds and references of the objects from 352 on -/
abbrev mm_q : Type := Nat × Nat × (Nat → Nat → Nat) × (Nat → Nat → Option Nat)
def mm_Sq (q : mm_q) (h : mm_H) : Prop := (352 ≤ q.1 ∧ q.1 ≤ mm_NN) ∧ mh_n h = q.1 ∧ (∀ o, o < 352 → ∀ k, k < 24 → ∀ t, mm_R0 q.2.1 o k = some t → mh_R h o k = some t) ∧ mh_D h = q.2.2.1 ∧ ∀ o, 352 ≤ o → mh_R h o = q.2.2.2 o
theorem mm_ks {F : mm_H → Prop} {h : mm_H} {o t n : Nat} (hk : mm_kd o = (t, n)) (ht : ¬ t = 9 := by decide) : F h → mm_kk h o = (t, n) := fun _ => by
  unfold mm_kk
  rw [if_pos (mm_kd_lt hk ht), hk]
def mm_ibd (i : Int32) (n : Nat) : Bool := decide (¬ (i < 0 ∨ n ≤ i.toNatClampNeg))
theorem mm_ibd_of {i : Int32} {n : Nat} (h : mm_ibd i n = true) : vp_in i n := of_decide_eq_true (p := ¬ (i < 0 ∨ n ≤ i.toNatClampNeg)) h
def mm_max (x y : Int32) : Int32 := if x < y then y else x
def mm_min (x y : Int32) : Int32 := if y < x then y else x
def mm_ushr (x y : Int32) : Int32 := (x.toUInt32 >>> (y.toUInt32 &&& Int32.toUInt32 31)).toInt32
theorem kc_plus {x a b : Int32} (h : a = b) : x + a = x + b := by rw [h]
def mm_cpo (sp dp n : Int32) (n0 n1 : Nat) : Bool := decide (¬ sp < 0 ∧ ¬ dp < 0 ∧ ¬ n < 0 ∧ sp.toNatClampNeg + n.toNatClampNeg ≤ n0 ∧ dp.toNatClampNeg + n.toNatClampNeg ≤ n1)
theorem mm_cpo_of {sp dp n : Int32} {n0 n1 : Nat} (h : mm_cpo sp dp n n0 n1 = true) : ¬ sp < 0 ∧ ¬ dp < 0 ∧ ¬ n < 0 ∧ sp.toNatClampNeg + n.toNatClampNeg ≤ n0 ∧ dp.toNatClampNeg + n.toNatClampNeg ≤ n1 := of_decide_eq_true h
def mm_sn (i : Nat) : Nat := mm_slen.getD i 0
def mm_sl (i : Nat) : Int32 := nI (mm_sn i)
def mm_sc (i : Nat) (k : Int32) : Int32 := (mm_sbyt.getD i []).getD k.toNatClampNeg 0 &&& 255
def mm_jn {α τ : Type} (k : α) (b : α → τ) : τ := b k
def mm_msk : List Bool → List (Option Value) → List (Option Value)
  | b :: bs, x :: xs => (if b = true then x else none) :: mm_msk bs xs
  | _, _ => []
theorem mm_msk_ok : ∀ (bs : List Bool) (L : List (Option Value)) (i : Nat) (v : Value), (mm_msk bs L)[i]? = some (some v) → L[i]? = some (some v)
  | [], L, i, v, hv => by simp [mm_msk] at hv
  | b :: bs, [], i, v, hv => by simp [mm_msk] at hv
  | b :: bs, x :: xs, 0, v, hv => by
    cases b <;> simp [mm_msk] at hv ⊢
    exact hv
  | b :: bs, x :: xs, i + 1, v, hv => by
    simp only [mm_msk, List.getElem?_cons_succ] at hv ⊢
    exact mm_msk_ok bs xs i v hv
variable {τ : Type} {F G F' G' F'' : mm_H → Prop} {M N : mm_M} {pc pc' : Nat} {L : List (Option Value)} {st : List Value} {h : mm_H} {o : Option τ} {lf : τ → mm_O}
theorem mm_maskB (bs : List Bool) (k : mm_E2 F G M pc (mm_msk bs L) st h o lf) : mm_E2 F G M pc L st h o lf := mm_mask (mm_msk_ok bs L) k
theorem mm_bnd {α : Type} (v : α) (Lf : α → List (Option Value)) (sf : α → List Value) (hf : α → mm_H) {k : α → Option τ} (K : ∀ x, mm_E2 F G M pc (Lf x) (sf x) (hf x) (k x) lf) : mm_E2 F G M pc (Lf v) (sf v) (hf v) ((some v).bind k) lf := K v
theorem mm_jnI {α : Type} (P : α → Prop) {k : α} {b : α → Option τ} (hk : P k) (hb : ∀ j, P j → mm_E2 F G M pc L st h (b j) lf) : mm_E2 F G M pc L st h (mm_jn k b) lf := hb k hk
theorem me_tsw {dflt lo hi : Int} {offs : Array Int} {len : Nat} {x k : Int32} {off : Int} {tgt : Nat} (hx : x = k) (d : decode (my_b M) pc = .ok (.tableswitch dflt lo hi offs, len)) (h1 : ¬ k.toInt < lo) (h2 : ¬ hi < k.toInt) (ho : offs[(k.toInt - lo).toNat]? = some off) (ht : (pc : Int) + off = (tgt : Int)) (K : mm_E2 F G M tgt L st h o lf) : mm_E2 F G M pc L (.int x :: st) h o lf := by
  subst hx
  exact me_tableIn d h1 h2 ho ht K
theorem mm_i32 {x : Int32} {k : Nat} (hk : k < 2 ^ 31) (h : x.toInt = (k : Int)) : x = nI k := by
  apply Int32.toInt_inj.mp
  rw [h]
  unfold nI
  rw [Int32.toInt_ofNat_of_lt (by omega)]
theorem mm_out7 {x : Int32} (c0 : ¬ x = 0) (c1 : ¬ x = 1) (c2 : ¬ x = 2) (c3 : ¬ x = 3) (c4 : ¬ x = 4) (c5 : ¬ x = 5) (c6 : ¬ x = 6) (c7 : ¬ x = 7) : x.toInt < 0 ∨ 7 < x.toInt := by
  by_cases h1 : x.toInt < 0
  · exact Or.inl h1
  · by_cases h2 : 7 < x.toInt
    · exact Or.inr h2
    · exfalso
      have : x.toInt = (0 : Nat) ∨ x.toInt = (1 : Nat) ∨ x.toInt = (2 : Nat) ∨ x.toInt = (3 : Nat) ∨ x.toInt = (4 : Nat) ∨ x.toInt = (5 : Nat) ∨ x.toInt = (6 : Nat) ∨ x.toInt = (7 : Nat) := by omega
      rcases this with e | e | e | e | e | e | e | e
      · exact c0 (mm_i32 (by decide) e)
      · exact c1 (mm_i32 (by decide) e)
      · exact c2 (mm_i32 (by decide) e)
      · exact c3 (mm_i32 (by decide) e)
      · exact c4 (mm_i32 (by decide) e)
      · exact c5 (mm_i32 (by decide) e)
      · exact c6 (mm_i32 (by decide) e)
      · exact c7 (mm_i32 (by decide) e)
theorem mm_out8 {x : Int32} (c0 : ¬ x = 0) (c1 : ¬ x = 1) (c2 : ¬ x = 2) (c3 : ¬ x = 3) (c4 : ¬ x = 4) (c5 : ¬ x = 5) (c6 : ¬ x = 6) (c7 : ¬ x = 7) (c8 : ¬ x = 8) : x.toInt < 0 ∨ 8 < x.toInt := by
  rcases mm_out7 c0 c1 c2 c3 c4 c5 c6 c7 with h | h
  · exact Or.inl h
  · by_cases h2 : 8 < x.toInt
    · exact Or.inr h2
    · exact absurd (mm_i32 (k := 8) (by decide) (by omega)) c8
theorem me_ishr {x y : Int32} (d : decode (my_b M) pc = .ok (.ishr, 1)) (hp : pc + 1 = pc') (k : mm_E2 F G M pc' L (.int (x >>> (y &&& 31)) :: st) h o lf) : mm_E2 F G M pc L (.int y :: .int x :: st) h o lf := by
  subst hp
  exact mm_lift (fun X p l e R s m args below meth c H locs ls cells slots Q hC hP hS hL hF _ _ kk => lv_ishr hC.2.1 hC.2.2.1 d kk) k
theorem me_ldc_w {idx i q : Nat} {tx : String} (d : decode (my_b M) pc = .ok (.ldc_w idx, 3)) (hp : pc + 3 = pc') (hs : ((my_y M).cls, idx, tx, i) ∈ mm_srl) (hq : mm_NN + 1 + i = q) (K : mm_E2 F G M pc' L (.ref q :: st) h o lf) : mm_E2 F G M pc L st h o lf := by
  subst hp
  subst hq
  refine mm_lift (st' := .ref (mm_NN + 1 + i) :: st) (fun X p l e R s m args below meth c H locs ls cells slots Q hC hP hS hL hF hc hs9 kk => ?_) K
  obtain ⟨hl, hx, hb, hr, hml, hown, hlk, hts, hE, hte, hin0, hRf, hRl⟩ := hC
  have kk' : W p l e R s m args below meth c H locs cells slots Q (F0 m (pc + 3) ls (.ref (mx_ad X (mm_NN + 1 + i)) :: st.map (mx_cv X))) := kk
  rw [mx_ad_str X (mm_srl_lt _ hs)] at kk'
  obtain ⟨z1, z2⟩ := hE.2.2.2.2.1 _ hs
  intro T hT X9
  obtain ⟨t, a1, b1⟩ := kk' T hT X9
  refine ⟨t, ?_, b1⟩
  have hdg : decode c.code pc = .ok (.ldc_w idx, 3) := by rw [hb]; exact d
  obtain ⟨k, cf, i9, a', hk, hcf, hcp, -, hr9, hev'⟩ := Cond.stringRef_spec (args := #[]) (s := s) (first := s) (o := none) (idx := []) hown z1
  cases z2.symm.trans hev'
  obtain ⟨k', hk', he⟩ := X9.warmed.alike.2.2 _ _ hk
  have hr' : k'.resolved[idx]? = some (some (.string (mx_adK X i))) := by
    rcases X9.warmed.entry hk hk' idx with h9 | ⟨h9, -⟩
    · rw [h9]; exact hr9
    · rw [hr9] at h9; cases h9
  jvm_step X9.here [hx, hdg, ldc_w.wp_string (e := e) (s := T) (f := F0 m pc ls (st.map (mx_cv X))) X9.here.top hk' (by rw [he]; exact hcf) hcp hr']
  exact a1
variable {σ : Type} {lN : σ → mm_O} {As : List Value} {q ci idx n : Nat} {x : σ} {v : Option Value} {h1 : mm_H}
theorem me_callVt (d : decode (my_b M) pc = .ok (.invokevirtual idx, 3)) (hp : pc + 3 = pc') (hm : mm_mV N n) (hln : As.length = n) (hk : mm_lk (my_y M).cls idx N) (hq : F h → mm_kk h q = (0, ci)) (hcn : mm_cn ci = some (my_y N).cls) (hn : F h → q < mh_n h)
    (hfr : my_f N + 1 ≤ my_f M ∧ 8 + (my_L N + 11) + my_w N ≤ my_w M) (hcat : (st.map fun v => v.category).sum ≤ 8) (hF' : F h → F' h) (hR : mm_R2 F' G' N (.ref q :: As) h (some x) lN) (hl : lN x = (.inl v, h1)) (hg : G' h1 → F'' h1) (K : mm_E2 F'' G M pc' L (v.toList ++ st) h1 o lf) : mm_E2 F G M pc L (As.reverse ++ .ref q :: st) h o lf :=
  me_callV (kN := fun _ => o) (oN := some x) d hp hm hln hk hq hcn hn hfr hcat hF' hR (fun y hy => by cases hy; exact Or.inl ⟨v, h1, hl, hg, K⟩)
theorem me_callSt (d : decode (my_b M) pc = .ok (.invokestatic idx, 3)) (hp : pc + 3 = pc') (hm : mm_mS N n) (hln : As.length = n) (hk : mm_lk (my_y M).cls idx N)
    (hfr : my_f N + 1 ≤ my_f M ∧ 8 + (my_L N + 11) + my_w N ≤ my_w M) (hcat : (st.map fun v => v.category).sum ≤ 8) (hF' : F h → F' h) (hR : mm_R2 F' G' N As h (some x) lN) (hl : lN x = (.inl v, h1)) (hg : G' h1 → F'' h1) (K : mm_E2 F'' G M pc' L (v.toList ++ st) h1 o lf) : mm_E2 F G M pc L (As.reverse ++ st) h o lf :=
  me_callS (kN := fun _ => o) (oN := some x) d hp hm hln hk hfr hcat hF' hR (fun y hy => by cases hy; exact Or.inl ⟨v, h1, hl, hg, K⟩)

theorem mm_ltq {q : mm_q} {o t n : Nat} {h : mm_H} (hk : mm_kd o = (t, n)) (ht : ¬ t = 9 := by decide) : mm_Sq q h → o < mh_n h := fun hs => by
  have h1 := mm_kd_lt hk ht
  have h2 := hs.1.1
  rw [hs.2.1]
  omega
theorem mm_qD {q : mm_q} {o t n : Nat} {h : mm_H} (ho : 352 ≤ o) (h0 : q.2.2.1 o 0 = t) (h1 : q.2.2.1 o 1 = n) : mm_Sq q h → mm_kk h o = (t, n) := fun hs => by
  unfold mm_kk
  rw [if_neg (by omega), hs.2.2.2.1, h0, h1]
theorem mm_qR {q : mm_q} {o k : Nat} {r : Option Nat} {h : mm_H} (ho : 352 ≤ o) (h0 : q.2.2.2 o k = r) : mm_Sq q h → mh_R h o k = r := fun hs => by
  rw [hs.2.2.2.2 o ho, h0]
theorem mm_qn {q : mm_q} {o : Nat} {h : mm_H} (ho : o < q.1) : mm_Sq q h → o < mh_n h := fun hs => by
  rw [hs.2.1]
  exact ho
theorem mrX8_0 {q : mm_q} {o : Nat} {h : mm_H} (hk : mm_kd o = (0, 8)) : mm_Sq q h → mh_R h o 0 = some (o + 1) := by
  intro hs
  refine hs.2.2.1 o (mm_kd_lt hk (by decide)) 0 (by decide) _ ?_
  unfold mm_R0
  rw [hk]
  have h6 : ¬ o = 6 := fun z => by
    rw [z] at hk
    exact absurd hk (by decide +kernel)
  simp [mm_ofl, h6]
theorem mrX3_0 {q : mm_q} {o : Nat} {h : mm_H} (hk : mm_kd o = (0, 3)) : mm_Sq q h → mh_R h o 0 = some (o + 1) := by
  intro hs
  refine hs.2.2.1 o (mm_kd_lt hk (by decide)) 0 (by decide) _ ?_
  unfold mm_R0
  rw [hk]
  have h6 : ¬ o = 6 := fun z => by
    rw [z] at hk
    exact absurd hk (by decide +kernel)
  simp [mm_ofl, h6]
theorem mrX4_0 {q : mm_q} {o : Nat} {h : mm_H} (hk : mm_kd o = (0, 4)) : mm_Sq q h → mh_R h o 0 = some (o + 1) := by
  intro hs
  refine hs.2.2.1 o (mm_kd_lt hk (by decide)) 0 (by decide) _ ?_
  unfold mm_R0
  rw [hk]
  have h6 : ¬ o = 6 := fun z => by
    rw [z] at hk
    exact absurd hk (by decide +kernel)
  simp [mm_ofl, h6]
theorem mrX5_2 {q : mm_q} {o : Nat} {h : mm_H} (hk : mm_kd o = (0, 5)) : mm_Sq q h → mh_R h o 2 = some (o + 1) := by
  intro hs
  refine hs.2.2.1 o (mm_kd_lt hk (by decide)) 2 (by decide) _ ?_
  unfold mm_R0
  rw [hk]
  have h6 : ¬ o = 6 := fun z => by
    rw [z] at hk
    exact absurd hk (by decide +kernel)
  simp [mm_ofl, h6]
theorem mrX5_3 {q : mm_q} {o : Nat} {h : mm_H} (hk : mm_kd o = (0, 5)) : mm_Sq q h → mh_R h o 3 = some (o + 3) := by
  intro hs
  refine hs.2.2.1 o (mm_kd_lt hk (by decide)) 3 (by decide) _ ?_
  unfold mm_R0
  rw [hk]
  have h6 : ¬ o = 6 := fun z => by
    rw [z] at hk
    exact absurd hk (by decide +kernel)
  simp [mm_ofl, h6]
theorem mrX1_1 {q : mm_q} {o : Nat} {h : mm_H} (hk : mm_kd o = (0, 1)) : mm_Sq q h → mh_R h o 1 = some (o + 1) := by
  intro hs
  refine hs.2.2.1 o (mm_kd_lt hk (by decide)) 1 (by decide) _ ?_
  unfold mm_R0
  rw [hk]
  have h6 : ¬ o = 6 := fun z => by
    rw [z] at hk
    exact absurd hk (by decide +kernel)
  simp [mm_ofl, h6]
theorem mrX1_2 {q : mm_q} {o : Nat} {h : mm_H} (hk : mm_kd o = (0, 1)) : mm_Sq q h → mh_R h o 2 = some (o + 3) := by
  intro hs
  refine hs.2.2.1 o (mm_kd_lt hk (by decide)) 2 (by decide) _ ?_
  unfold mm_R0
  rw [hk]
  have h6 : ¬ o = 6 := fun z => by
    rw [z] at hk
    exact absurd hk (by decide +kernel)
  simp [mm_ofl, h6]
theorem mrX1_3 {q : mm_q} {o : Nat} {h : mm_H} (hk : mm_kd o = (0, 1)) : mm_Sq q h → mh_R h o 3 = some (o + 5) := by
  intro hs
  refine hs.2.2.1 o (mm_kd_lt hk (by decide)) 3 (by decide) _ ?_
  unfold mm_R0
  rw [hk]
  have h6 : ¬ o = 6 := fun z => by
    rw [z] at hk
    exact absurd hk (by decide +kernel)
  simp [mm_ofl, h6]
theorem mrX7_2 {q : mm_q} {o : Nat} {h : mm_H} (hk : mm_kd o = (0, 7)) : mm_Sq q h → mh_R h o 2 = some (o + 1) := by
  intro hs
  refine hs.2.2.1 o (mm_kd_lt hk (by decide)) 2 (by decide) _ ?_
  unfold mm_R0
  rw [hk]
  have h6 : ¬ o = 6 := fun z => by
    rw [z] at hk
    exact absurd hk (by decide +kernel)
  simp [mm_ofl, h6]
theorem mrX7_3 {q : mm_q} {o : Nat} {h : mm_H} (hk : mm_kd o = (0, 7)) : mm_Sq q h → mh_R h o 3 = some (o + 3) := by
  intro hs
  refine hs.2.2.1 o (mm_kd_lt hk (by decide)) 3 (by decide) _ ?_
  unfold mm_R0
  rw [hk]
  have h6 : ¬ o = 6 := fun z => by
    rw [z] at hk
    exact absurd hk (by decide +kernel)
  simp [mm_ofl, h6]
theorem mrX7_4 {q : mm_q} {o : Nat} {h : mm_H} (hk : mm_kd o = (0, 7)) : mm_Sq q h → mh_R h o 4 = some (o + 5) := by
  intro hs
  refine hs.2.2.1 o (mm_kd_lt hk (by decide)) 4 (by decide) _ ?_
  unfold mm_R0
  rw [hk]
  have h6 : ¬ o = 6 := fun z => by
    rw [z] at hk
    exact absurd hk (by decide +kernel)
  simp [mm_ofl, h6]
theorem mrX7_5 {q : mm_q} {o : Nat} {h : mm_H} (hk : mm_kd o = (0, 7)) : mm_Sq q h → mh_R h o 5 = some (o + 7) := by
  intro hs
  refine hs.2.2.1 o (mm_kd_lt hk (by decide)) 5 (by decide) _ ?_
  unfold mm_R0
  rw [hk]
  have h6 : ¬ o = 6 := fun z => by
    rw [z] at hk
    exact absurd hk (by decide +kernel)
  simp [mm_ofl, h6]
theorem mrX7_6 {q : mm_q} {o : Nat} {h : mm_H} (hk : mm_kd o = (0, 7)) : mm_Sq q h → mh_R h o 6 = some (o + 9) := by
  intro hs
  refine hs.2.2.1 o (mm_kd_lt hk (by decide)) 6 (by decide) _ ?_
  unfold mm_R0
  rw [hk]
  have h6 : ¬ o = 6 := fun z => by
    rw [z] at hk
    exact absurd hk (by decide +kernel)
  simp [mm_ofl, h6]
theorem mrX7_8 {q : mm_q} {o : Nat} {h : mm_H} (hk : mm_kd o = (0, 7)) : mm_Sq q h → mh_R h o 8 = some (o + 11) := by
  intro hs
  refine hs.2.2.1 o (mm_kd_lt hk (by decide)) 8 (by decide) _ ?_
  unfold mm_R0
  rw [hk]
  have h6 : ¬ o = 6 := fun z => by
    rw [z] at hk
    exact absurd hk (by decide +kernel)
  simp [mm_ofl, h6]
theorem mrX7_9 {q : mm_q} {o : Nat} {h : mm_H} (hk : mm_kd o = (0, 7)) : mm_Sq q h → mh_R h o 9 = some (o + 13) := by
  intro hs
  refine hs.2.2.1 o (mm_kd_lt hk (by decide)) 9 (by decide) _ ?_
  unfold mm_R0
  rw [hk]
  have h6 : ¬ o = 6 := fun z => by
    rw [z] at hk
    exact absurd hk (by decide +kernel)
  simp [mm_ofl, h6]
theorem mrX7_10 {q : mm_q} {o : Nat} {h : mm_H} (hk : mm_kd o = (0, 7)) : mm_Sq q h → mh_R h o 10 = some (o + 15) := by
  intro hs
  refine hs.2.2.1 o (mm_kd_lt hk (by decide)) 10 (by decide) _ ?_
  unfold mm_R0
  rw [hk]
  have h6 : ¬ o = 6 := fun z => by
    rw [z] at hk
    exact absurd hk (by decide +kernel)
  simp [mm_ofl, h6]
theorem mrX7_11 {q : mm_q} {o : Nat} {h : mm_H} (hk : mm_kd o = (0, 7)) : mm_Sq q h → mh_R h o 11 = some (o + 17) := by
  intro hs
  refine hs.2.2.1 o (mm_kd_lt hk (by decide)) 11 (by decide) _ ?_
  unfold mm_R0
  rw [hk]
  have h6 : ¬ o = 6 := fun z => by
    rw [z] at hk
    exact absurd hk (by decide +kernel)
  simp [mm_ofl, h6]
theorem mrX7_12 {q : mm_q} {o : Nat} {h : mm_H} (hk : mm_kd o = (0, 7)) : mm_Sq q h → mh_R h o 12 = some (o + 19) := by
  intro hs
  refine hs.2.2.1 o (mm_kd_lt hk (by decide)) 12 (by decide) _ ?_
  unfold mm_R0
  rw [hk]
  have h6 : ¬ o = 6 := fun z => by
    rw [z] at hk
    exact absurd hk (by decide +kernel)
  simp [mm_ofl, h6]
theorem mrX7_13 {q : mm_q} {o : Nat} {h : mm_H} (hk : mm_kd o = (0, 7)) : mm_Sq q h → mh_R h o 13 = some (o + 21) := by
  intro hs
  refine hs.2.2.1 o (mm_kd_lt hk (by decide)) 13 (by decide) _ ?_
  unfold mm_R0
  rw [hk]
  have h6 : ¬ o = 6 := fun z => by
    rw [z] at hk
    exact absurd hk (by decide +kernel)
  simp [mm_ofl, h6]
theorem mrX7_14 {q : mm_q} {o : Nat} {h : mm_H} (hk : mm_kd o = (0, 7)) : mm_Sq q h → mh_R h o 14 = some (o + 23) := by
  intro hs
  refine hs.2.2.1 o (mm_kd_lt hk (by decide)) 14 (by decide) _ ?_
  unfold mm_R0
  rw [hk]
  have h6 : ¬ o = 6 := fun z => by
    rw [z] at hk
    exact absurd hk (by decide +kernel)
  simp [mm_ofl, h6]
theorem mrX7_15 {q : mm_q} {o : Nat} {h : mm_H} (hk : mm_kd o = (0, 7)) : mm_Sq q h → mh_R h o 15 = some (o + 25) := by
  intro hs
  refine hs.2.2.1 o (mm_kd_lt hk (by decide)) 15 (by decide) _ ?_
  unfold mm_R0
  rw [hk]
  have h6 : ¬ o = 6 := fun z => by
    rw [z] at hk
    exact absurd hk (by decide +kernel)
  simp [mm_ofl, h6]
theorem mrX7_16 {q : mm_q} {o : Nat} {h : mm_H} (hk : mm_kd o = (0, 7)) : mm_Sq q h → mh_R h o 16 = some (o + 27) := by
  intro hs
  refine hs.2.2.1 o (mm_kd_lt hk (by decide)) 16 (by decide) _ ?_
  unfold mm_R0
  rw [hk]
  have h6 : ¬ o = 6 := fun z => by
    rw [z] at hk
    exact absurd hk (by decide +kernel)
  simp [mm_ofl, h6]
theorem mrX7_17 {q : mm_q} {o : Nat} {h : mm_H} (hk : mm_kd o = (0, 7)) : mm_Sq q h → mh_R h o 17 = some (o + 29) := by
  intro hs
  refine hs.2.2.1 o (mm_kd_lt hk (by decide)) 17 (by decide) _ ?_
  unfold mm_R0
  rw [hk]
  have h6 : ¬ o = 6 := fun z => by
    rw [z] at hk
    exact absurd hk (by decide +kernel)
  simp [mm_ofl, h6]
theorem mrX6_0 {q : mm_q} {o : Nat} {h : mm_H} (hk : mm_kd o = (0, 6)) : mm_Sq q h → mh_R h o 0 = some (o + 1) := by
  intro hs
  refine hs.2.2.1 o (mm_kd_lt hk (by decide)) 0 (by decide) _ ?_
  unfold mm_R0
  rw [hk]
  have h6 : ¬ o = 6 := fun z => by
    rw [z] at hk
    exact absurd hk (by decide +kernel)
  simp [mm_ofl, h6]
theorem mrX6_1 {q : mm_q} {o : Nat} {h : mm_H} (hk : mm_kd o = (0, 6)) : mm_Sq q h → mh_R h o 1 = some (o + 2) := by
  intro hs
  refine hs.2.2.1 o (mm_kd_lt hk (by decide)) 1 (by decide) _ ?_
  unfold mm_R0
  rw [hk]
  have h6 : ¬ o = 6 := fun z => by
    rw [z] at hk
    exact absurd hk (by decide +kernel)
  simp [mm_ofl, h6]
theorem mrX2_0 {q : mm_q} {o : Nat} {h : mm_H} (hk : mm_kd o = (0, 2)) : mm_Sq q h → mh_R h o 0 = some (o + 1) := by
  intro hs
  refine hs.2.2.1 o (mm_kd_lt hk (by decide)) 0 (by decide) _ ?_
  unfold mm_R0
  rw [hk]
  have h6 : ¬ o = 6 := fun z => by
    rw [z] at hk
    exact absurd hk (by decide +kernel)
  simp [mm_ofl, h6]
theorem mrX0_1 {q : mm_q} {o : Nat} {h : mm_H} (hk : mm_kd o = (0, 0)) : mm_Sq q h → mh_R h o 1 = some (o + 1) := by
  intro hs
  refine hs.2.2.1 o (mm_kd_lt hk (by decide)) 1 (by decide) _ ?_
  unfold mm_R0
  rw [hk]
  have h6 : ¬ o = 6 := fun z => by
    rw [z] at hk
    exact absurd hk (by decide +kernel)
  simp [mm_ofl, h6]
theorem mrX0_2 {q : mm_q} {o : Nat} {h : mm_H} (hk : mm_kd o = (0, 0)) : mm_Sq q h → mh_R h o 2 = some (o + 3) := by
  intro hs
  refine hs.2.2.1 o (mm_kd_lt hk (by decide)) 2 (by decide) _ ?_
  unfold mm_R0
  rw [hk]
  have h6 : ¬ o = 6 := fun z => by
    rw [z] at hk
    exact absurd hk (by decide +kernel)
  simp [mm_ofl, h6]
theorem mrX10_0 {q : mm_q} {h : mm_H} (_ : mm_kd 0 = (0, 10)) : mm_Sq q h → mh_R h 0 0 = some 1 := by
  intro hs
  exact hs.2.2.1 0 (by decide) 0 (by decide) _ rfl
theorem mrX10_1 {q : mm_q} {h : mm_H} (_ : mm_kd 0 = (0, 10)) : mm_Sq q h → mh_R h 0 1 = some 3 := by
  intro hs
  exact hs.2.2.1 0 (by decide) 1 (by decide) _ rfl
theorem mrX10_2 {q : mm_q} {h : mm_H} (_ : mm_kd 0 = (0, 10)) : mm_Sq q h → mh_R h 0 2 = some 5 := by
  intro hs
  exact hs.2.2.1 0 (by decide) 2 (by decide) _ rfl
theorem mrX10_3 {q : mm_q} {h : mm_H} (_ : mm_kd 0 = (0, 10)) : mm_Sq q h → mh_R h 0 3 = some 9 := by
  intro hs
  exact hs.2.2.1 0 (by decide) 3 (by decide) _ rfl
theorem mrX10_4 {q : mm_q} {h : mm_H} (_ : mm_kd 0 = (0, 10)) : mm_Sq q h → mh_R h 0 4 = some 14 := by
  intro hs
  exact hs.2.2.1 0 (by decide) 4 (by decide) _ rfl
theorem mrX10_5 {q : mm_q} {h : mm_H} (_ : mm_kd 0 = (0, 10)) : mm_Sq q h → mh_R h 0 5 = some 21 := by
  intro hs
  exact hs.2.2.1 0 (by decide) 5 (by decide) _ rfl
theorem mrX10_6 {q : mm_q} {h : mm_H} (_ : mm_kd 0 = (0, 10)) : mm_Sq q h → mh_R h 0 6 = some 52 := by
  intro hs
  exact hs.2.2.1 0 (by decide) 6 (by decide) _ rfl
theorem mrX10_7 {q : mm_q} {h : mm_H} (_ : mm_kd 0 = (0, 10)) : mm_Sq q h → mh_R h 0 7 = some 59 := by
  intro hs
  exact hs.2.2.1 0 (by decide) 7 (by decide) _ rfl
theorem mrX10_8 {q : mm_q} {h : mm_H} (_ : mm_kd 0 = (0, 10)) : mm_Sq q h → mh_R h 0 8 = some 90 := by
  intro hs
  exact hs.2.2.1 0 (by decide) 8 (by decide) _ rfl
theorem mrX10_9 {q : mm_q} {h : mm_H} (_ : mm_kd 0 = (0, 10)) : mm_Sq q h → mh_R h 0 9 = some 281 := by
  intro hs
  exact hs.2.2.1 0 (by decide) 9 (by decide) _ rfl
theorem mrX10_10 {q : mm_q} {h : mm_H} (_ : mm_kd 0 = (0, 10)) : mm_Sq q h → mh_R h 0 10 = some 347 := by
  intro hs
  exact hs.2.2.1 0 (by decide) 10 (by decide) _ rfl
theorem mrX9_0 {q : mm_q} {h : mm_H} : mm_Sq (q.1, 1, q.2.2) h → mh_R h 6 0 = some 1 := by
  intro hs
  exact hs.2.2.1 6 (by decide) 0 (by decide) _ rfl
theorem mrA {q : mm_q} {o n : Nat} {h : mm_H} {i : Int32} (hk : mm_kd o = (6, n)) (hi : vp_in i n) : mm_Sq q h → mh_R h o i.toNatClampNeg = some (o + 3 + 31 * i.toNatClampNeg) := by
  intro hs
  have h24 : ∀ o, o < 352 → (mm_kd o).1 = 6 → (mm_kd o).2 ≤ 6 := by decide +kernel
  have h23 := h24 o (mm_kd_lt hk (by decide)) (by rw [hk])
  rw [hk] at h23
  refine hs.2.2.1 o (mm_kd_lt hk (by decide)) _ (by unfold vp_in at hi; dsimp only at h23; omega) _ ?_
  unfold mm_R0
  rw [hk]
  unfold vp_in at hi
  simp
  omega
end MMJ

section PQJ
/-! the output text on the reference -/
variable {T : sp_T} {S : sp_S} {h : mm_H} {A : sp_A}
def po_wf (z : Nat) : Bool := z == 352 || z == 356
def pm_wfr (h h' : mm_H) : Prop := po_fr po_wf h h' ∧ ∀ k, k ≠ 8 → mh_I h' 352 k = mh_I h 352 k
theorem pm_wfr_refl (h : mm_H) : pm_wfr h h := ⟨po_fr_refl h, fun _ _ => rfl⟩
theorem pm_wfr_trans {a b c : mm_H} (h1 : pm_wfr a b) (h2 : pm_wfr b c) : pm_wfr a c := ⟨po_fr_trans h1.1 h2.1, fun k hk => (h2.2 k hk).trans (h1.2 k hk)⟩
theorem pm_put {b : Nat} {x : Int32} (H : sm_T T 8 356 h) (hl : T.1 < 300) (hx : x = nI b) : ∃ h', gX11_put x h = some h' ∧ sm_T (sp_app T b) 8 356 h' ∧ pm_wfr h h' := by
  unfold gX11_put
  rw [H.1, if_pos (po_ibd hl (by decide)), nI_clamp (by omega), Option.bind_some, po_I3 (by decide), H.1, nI_1, Option.bind_some]
  refine ⟨_, rfl, ⟨po_I1, fun j hj => ?_⟩, po_fr_trans (po_fr_I (by decide)) (po_fr_I (by decide)), fun k hk => ?_⟩
  · have hj' : j < T.1 + 1 := hj
    rw [po_I3 (by decide)]
    show _ = nI (if j = T.1 then b else T.2 j)
    by_cases hjt : j = T.1
    · subst hjt
      rw [po_I1, if_pos rfl, hx]
    · rw [po_I4 hjt, if_neg hjt]
      exact H.2 j (by omega)
  · rw [po_I4 hk, po_I3 (by decide)]
theorem pm_p18 {n u m : Nat} (H : sm_T T 8 356 h) (hl : T.1 < 300) (hn : n ≤ 9999) (h0 : 0 < u) (hu : u ≤ 1000) : ∃ h', gX11_putNumber_L18 (nI n) (m + 1) (nI u) h = gX11_putNumber_L18 (nI n) m (nI (u / 10)) h' ∧ sm_T (sp_app T (48 + n / u % 10)) 8 356 h' ∧ pm_wfr h h' := by
  obtain ⟨a, e1, H1, f1⟩ := pm_put (x := nI (48 + n / u % 10)) H hl rfl
  refine ⟨a, ?_, H1, f1⟩
  rw [gX11_putNumber_L18, if_pos (po_0lt h0 (by omega)), if_neg (nI_ne0 h0 (by omega)), po_dgt (by omega) h0 (by omega), e1, Option.bind_some, show (10 : Int32) = nI 10 from rfl, pk_div (by omega) (by decide) (by decide), Option.bind_some]
theorem pm_p2 {n u m : Nat} (hn : n ≤ 9999) (h0 : 0 < u) (hu : u ≤ 1000) : gX11_putNumber_L2 (nI n) h (m + 1) (nI u) = if n / u < 10 then gX11_putNumber_L18 (nI n) mm_F (nI u) h else gX11_putNumber_L2 (nI n) h m (nI (u * 10)) := by
  have h1 : n / u ≤ n := Nat.div_le_self n u
  rw [gX11_putNumber_L2, if_neg (nI_ne0 h0 (by omega)), pk_div (by omega) h0 (by omega)]
  by_cases hc : n / u < 10
  · rw [if_pos (show nI (n / u) < 10 from nI_lt hc (by decide)), if_pos hc]
  · rw [if_neg (show ¬ nI (n / u) < 10 from nI_nlt (b := 10) (by omega) (by omega)), if_neg hc, show (10 : Int32) = nI 10 from rfl, pk_mul, Option.bind_some]
theorem pm_putNumber {n : Nat} (H : sm_T T 8 356 h) (hn : n ≤ 9999) (hl : T.1 + 4 ≤ 300) : ∃ h', gX11_putNumber (nI n) h = some h' ∧ sm_T (sp_apps T (sp_dig n)) 8 356 h' ∧ pm_wfr h h' := by
  unfold gX11_putNumber
  have fin : ∀ (h : mm_H) (m : Nat), gX11_putNumber_L18 (nI n) (m + 1) (nI (1 / 10)) h = some h := fun h m => by
    rw [gX11_putNumber_L18, if_neg (by decide)]
  rw [show mm_F = 99996 + 1 + 1 + 1 + 1 from rfl, show (1 : Int32) = nI 1 from rfl, pm_p2 hn (by decide) (by decide)]
  by_cases h1 : n < 10
  · rw [if_pos (by omega), show mm_F = 99998 + 1 + 1 from rfl]
    obtain ⟨a, e1, H1, f1⟩ := pm_p18 (m := 99998 + 1) (u := 1) H (by omega) hn (by decide) (by decide)
    rw [e1, fin]
    refine ⟨a, rfl, ?_, f1⟩
    unfold sp_dig
    rw [if_neg (show ¬ 1000 ≤ n by omega), if_neg (show ¬ 100 ≤ n by omega), if_neg (show ¬ 10 ≤ n by omega)]
    rw [Nat.div_one] at H1
    exact H1
  · rw [if_neg (show ¬ n / 1 < 10 by omega), pm_p2 hn (by decide) (by decide)]
    by_cases h2 : n < 100
    · rw [if_pos (by omega), show mm_F = 99997 + 1 + 1 + 1 from rfl]
      obtain ⟨a, e1, H1, f1⟩ := pm_p18 (m := 99997 + 1 + 1) (u := 1 * 10) H (by omega) hn (by decide) (by decide)
      obtain ⟨b, e2, H2, f2⟩ := pm_p18 (m := 99997 + 1) (u := 1 * 10 / 10) H1 (show T.1 + 1 < 300 by omega) hn (by decide) (by decide)
      rw [e1, e2, fin]
      refine ⟨b, rfl, ?_, pm_wfr_trans f1 f2⟩
      unfold sp_dig
      rw [if_neg (show ¬ 1000 ≤ n by omega), if_neg (show ¬ 100 ≤ n by omega), if_pos (show 10 ≤ n by omega)]
      rw [show 1 * 10 / 10 = 1 from rfl, Nat.div_one] at H2
      exact H2
    · rw [if_neg (show ¬ n / (1 * 10) < 10 by omega), pm_p2 hn (by decide) (by decide)]
      by_cases h3 : n < 1000
      · rw [if_pos (by omega), show mm_F = 99996 + 1 + 1 + 1 + 1 from rfl]
        obtain ⟨a, e1, H1, f1⟩ := pm_p18 (m := 99996 + 1 + 1 + 1) (u := 1 * 10 * 10) H (by omega) hn (by decide) (by decide)
        obtain ⟨b, e2, H2, f2⟩ := pm_p18 (m := 99996 + 1 + 1) (u := 1 * 10 * 10 / 10) H1 (show T.1 + 1 < 300 by omega) hn (by decide) (by decide)
        obtain ⟨c, e3, H3, f3⟩ := pm_p18 (m := 99996 + 1) (u := 1 * 10 * 10 / 10 / 10) H2 (show T.1 + 1 + 1 < 300 by omega) hn (by decide) (by decide)
        rw [e1, e2, e3, fin]
        refine ⟨c, rfl, ?_, pm_wfr_trans f1 (pm_wfr_trans f2 f3)⟩
        unfold sp_dig
        rw [if_neg (show ¬ 1000 ≤ n by omega), if_pos (show 100 ≤ n by omega), if_pos (show 10 ≤ n by omega)]
        rw [show 1 * 10 * 10 / 10 / 10 = 1 from rfl, Nat.div_one] at H3
        exact H3
      · rw [if_neg (show ¬ n / (1 * 10 * 10) < 10 by omega), pm_p2 hn (by decide) (by decide), if_pos (by omega), show mm_F = 99995 + 1 + 1 + 1 + 1 + 1 from rfl]
        obtain ⟨a, e1, H1, f1⟩ := pm_p18 (m := 99995 + 1 + 1 + 1 + 1) (u := 1 * 10 * 10 * 10) H (by omega) hn (by decide) (by decide)
        obtain ⟨b, e2, H2, f2⟩ := pm_p18 (m := 99995 + 1 + 1 + 1) (u := 1 * 10 * 10 * 10 / 10) H1 (show T.1 + 1 < 300 by omega) hn (by decide) (by decide)
        obtain ⟨c, e3, H3, f3⟩ := pm_p18 (m := 99995 + 1 + 1) (u := 1 * 10 * 10 * 10 / 10 / 10) H2 (show T.1 + 1 + 1 < 300 by omega) hn (by decide) (by decide)
        obtain ⟨d, e4, H4, f4⟩ := pm_p18 (m := 99995 + 1) (u := 1 * 10 * 10 * 10 / 10 / 10 / 10) H3 (show T.1 + 1 + 1 + 1 < 300 by omega) hn (by decide) (by decide)
        rw [e1, e2, e3, e4, fin]
        refine ⟨d, rfl, ?_, pm_wfr_trans f1 (pm_wfr_trans f2 (pm_wfr_trans f3 f4))⟩
        unfold sp_dig
        rw [if_pos (show 1000 ≤ n by omega), if_pos (show 100 ≤ n by omega), if_pos (show 10 ≤ n by omega)]
        rw [show 1 * 10 * 10 * 10 / 10 / 10 / 10 = 1 from rfl, Nat.div_one] at H4
        exact H4
/-! the next batch behind a place -/
def sp_bh (S : sp_S) (u v : Int32) (k : Nat) : Bool := decide (u < nI (sp_b S k 2) ∨ (nI (sp_b S k 2) = u ∧ v < nI k))
theorem pm_behind (H : sm_S S 0 h) (ok : sp_ok S) {p : Nat} {u v : Int32} (hp : p < 2 ^ 31) : gX11_batchBehind (nI p) u v h = some (sp_hd (sp_ordk (sp_e S) (fun k => sp_is S p k && sp_bh S u v k) (sp_nb S))) := by
  refine po_loopF (fun n i s => gX11_batchBehind_L6 (nI p) u v h n s (nI i)) (sp_nb S) (fun i => sp_hd (sp_ordk (sp_e S) (fun k => sp_is S p k && sp_bh S u v k) i)) _ (fun n => ?_) (fun n i hi => ?_) mm_F 0 (Nat.zero_le _) (pc_nbF ok)
  · try dsimp only
    rw [gX11_batchBehind_L6, if_pos po_m2, if_neg (pm_nlt H ok)]
  · try dsimp only
    have h7 := (ok.2.1 i hi).2.1
    have h6 := (ok.2.1 i hi).2.2.1
    have e0 : sp_ordk (sp_e S) (fun k => sp_is S p k && sp_bh S u v k) (i + 1) = if (sp_is S p i && sp_bh S u v i) = true then sp_ins (sp_e S) i (sp_ordk (sp_e S) (fun k => sp_is S p k && sp_bh S u v k) i) else sp_ordk (sp_e S) (fun k => sp_is S p k && sp_bh S u v k) i := rfl
    have hm : ∀ z, z ∈ sp_ordk (sp_e S) (fun k => sp_is S p k && sp_bh S u v k) i → z < i := fun z hz => (sp_ordk_mem.mp hz).1
    rw [e0]
    generalize sp_ordk (sp_e S) (fun k => sp_is S p k && sp_bh S u v k) i = l at hm
    rw [gX11_batchBehind_L6, if_pos po_m2, if_pos (pm_lt H ok hi), pm_isOf H ok hi hp, Option.bind_some]
    refine po_jn (fun k1 g1 => ?_)
    have hk1 : ∀ y, k1 y = gX11_batchBehind_L6 (nI p) u v h n y (nI (i + 1)) := fun y => by
      rw [g1]
      dsimp only
      rw [Option.bind_some, nI_1]
    by_cases hc : sp_b S i 0 = p
    · rw [if_pos (decide_eq_true hc), pm_b H ok (x := 1) (w := 1) rfl hi (by decide), Option.bind_some]
      by_cases hu : sp_b S i 1 = 0
      · have hf : ¬ (sp_is S p i && sp_bh S u v i) = true := by
          rw [show sp_is S p i = false from decide_eq_false (fun z => by have := z.2; omega), Bool.false_and]
          decide
        rw [hu, if_pos (show nI 0 = 0 from rfl), if_neg hf, hk1]
      · have his : sp_is S p i = true := decide_eq_true ⟨hc, by omega⟩
        rw [if_neg (nI_ne0 (by omega) (by omega)), pm_b H ok (x := 2) (w := 2) rfl hi (by decide), Option.bind_some]
        refine po_jn (fun k2 g2 => ?_)
        -- what comes behind 'isBehind'
        have hk2 : ∀ b : Bool, k2 (if b = true then 1 else 0) = gX11_batchBehind_L6 (nI p) u v h n (if b = true then sp_hd (sp_ins (sp_e S) i l) else sp_hd l) (nI (i + 1)) := by
          intro b
          rw [g2]
          dsimp only
          cases b
          · rw [show (if false = true then (1 : Int32) else 0) = 0 from rfl, if_pos rfl, hk1]
            rfl
          · rw [show (if true = true then (1 : Int32) else 0) = 1 from rfl, if_neg (show ¬ (1 : Int32) = 0 by decide)]
            refine po_jn (fun k3 g3 => ?_)
            have hk3 : k3 () = gX11_batchBehind_L6 (nI p) u v h n (nI i) (nI (i + 1)) := by
              rw [g3, hk1]
            cases l with
            | nil =>
              rw [if_pos (show sp_hd [] = -1 from rfl), hk3]
              rfl
            | cons b t =>
              have hb := hm b List.mem_cons_self
              have hb2 : b < sp_nb S := Nat.lt_trans hb hi
              have hb3 := pc_b20 ok hb2
              have h5 := (ok.2.1 b hb2).2.2.1
              rw [if_neg (show ¬ sp_hd (b :: t) = -1 from po_nm1 (by omega)), Option.bind_some, show sp_hd (b :: t) = nI b from rfl, pm_b H ok (x := 2) (w := 2) rfl hb2 (by decide), Option.bind_some]
              unfold sp_ins sp_e
              by_cases hc3 : sp_b S i 2 < sp_b S b 2
              · rw [if_pos (nI_lt hc3 (by omega)), if_pos hc3, hk3]
                rfl
              · rw [if_neg (nI_nlt (by omega) (by omega)), if_neg hc3, hk1]
                rfl
        have fin : ∀ b : Bool, sp_bh S u v i = b → k2 (if b = true then 1 else 0) = gX11_batchBehind_L6 (nI p) u v h n (sp_hd (if (sp_is S p i && sp_bh S u v i) = true then sp_ins (sp_e S) i l else l)) (nI (i + 1)) := by
          intro b hb
          rw [hk2, his, hb]
          cases b
          · rfl
          · rfl
        refine po_jn (fun k4 g4 => ?_)
        have hk4 : k4 () = k2 1 := by rw [g4]
        by_cases h1 : u < nI (sp_b S i 2)
        · rw [if_pos h1, hk4]
          exact fin true (decide_eq_true (Or.inl h1))
        · rw [if_neg h1, Option.bind_some]
          refine po_jn (fun k5 g5 => ?_)
          have hk5 : k5 () = k2 0 := by rw [g5]
          by_cases h2 : nI (sp_b S i 2) = u
          · rw [if_pos h2]
            by_cases h3 : v < nI i
            · rw [if_pos h3, hk4]
              exact fin true (decide_eq_true (Or.inr ⟨h2, h3⟩))
            · rw [if_neg h3, hk5]
              exact fin false (decide_eq_false (fun z => z.elim h1 (fun w => h3 w.2)))
          · rw [if_neg h2, hk5]
            exact fin false (decide_eq_false (fun z => z.elim h1 (fun w => h2 w.1)))
    · have hf : ¬ (sp_is S p i && sp_bh S u v i) = true := by
        rw [show sp_is S p i = false from decide_eq_false (fun z => hc z.1), Bool.false_and]
        decide
      rw [if_neg (by rw [decide_eq_false hc]; decide), if_neg hf, hk1]
theorem pm_behind0 (H : sm_S S 0 h) (ok : sp_ok S) {p : Nat} (hp : p < 2 ^ 31) : gX11_batchBehind (nI p) (-1) (-1) h = some (sp_hd (sp_ins0 S p)) := by
  rw [pm_behind H ok hp]
  unfold sp_ins0
  rw [sp_ordk_eq (c' := sp_is S p) (e' := sp_e S) (fun i hi => ?_) (fun _ _ => rfl)]
  have h6 := (ok.2.1 i hi).2.2.1
  rw [show sp_bh S (-1) (-1) i = true from decide_eq_true (Or.inl (Int32.lt_of_lt_of_le (show (-1 : Int32) < 0 by decide) (nI_pos' (by omega)))), Bool.and_true]
theorem pm_behind1 (H : sm_S S 0 h) (ok : sp_ok S) {p x i : Nat} {t : List Nat} (hp : p < 2 ^ 31) (hd : (sp_ins0 S p).drop i = x :: t) : gX11_batchBehind (nI p) (nI (sp_b S x 2)) (nI x) h = some (sp_hd t) := by
  have hx : x ∈ sp_ins0 S p := List.mem_of_mem_drop (by rw [hd]; exact List.mem_cons_self)
  have hx2 := (sp_ordk_mem.mp hx).1
  have hx20 := pc_b20 ok hx2
  have hx6 := (ok.2.1 x hx2).2.2.1
  have hlex : sp_lex (sp_e S) (sp_ins0 S p) := sp_ordk_lex
  have ht : sp_lex (sp_e S) (x :: t) := hd ▸ sp_lex_drop (i := i) hlex
  have hbeh := sp_lex_beh hlex hd
  rw [pm_behind H ok hp]
  refine congrArg (fun z => some (sp_hd z)) (sp_lex_uniq sp_ordk_lex ht.2 (fun z => ?_))
  rw [hbeh z, sp_ordk_mem]
  unfold sp_ins0
  rw [sp_ordk_mem]
  have e : ∀ z, z < sp_nb S → sp_bh S (nI (sp_b S x 2)) (nI x) z = sp_bf (sp_e S) x z := fun z hz => by
    have h6 := (ok.2.1 z hz).2.2.1
    have h20 := pc_b20 ok hz
    unfold sp_bh sp_bf sp_e
    rw [decide_eq_decide, nI_ltI (by omega) (by omega), nI_ltI (by omega) (by omega), nI_eq (by omega) (by omega)]
    omega
  constructor
  · rintro ⟨h1, h2⟩
    rw [e z h1] at h2
    have := Bool.and_eq_true_iff.mp h2
    exact ⟨⟨h1, this.1⟩, this.2⟩
  · rintro ⟨⟨h1, h2⟩, h3⟩
    rw [e z h1]
    exact ⟨h1, Bool.and_eq_true_iff.mpr ⟨h2, h3⟩⟩
theorem pm_write2 {b : Nat} (H : sm_T T 8 356 h) (HS : sm_S S 0 h) (ok : sp_ok S) (hb : b < sp_nb S) (hl : T.1 + 10 ≤ 300) {R : Type} {K : mm_H → Option R} : ∃ h', (gX11_ofBatch (nI b) 1 h).bind (fun (x18 : Int32) =>
    (gX11_putNumber x18 h).bind (fun (h20 : mm_H) =>
    (gX11_put 64 h20).bind (fun (h22 : mm_H) =>
    (gX11_ofBatch (nI b) 2 h22).bind (fun (x24 : Int32) =>
    (gX11_putNumber x24 h22).bind (fun (h26 : mm_H) =>
    (gX11_isPast (nI b) h26).bind (fun (x28 : Bool) =>
    mm_jn K (fun (j31 : mm_H → Option R) =>
    if x28 = true then
    (gX11_put 33 h26).bind (fun (h37 : mm_H) =>
    j31 h37)
    else
    j31 h26))))))) = K h' ∧ sm_T (sp_wb1 S T b) 8 356 h' ∧ pm_wfr h h' := by
  obtain ⟨_, hu, he, _⟩ := ok.2.1 b hb
  have h3 := sp_dig3 hu
  have h4 := sp_dig4 (sp_b S b 2)
  have hS : ∀ {h' : mm_H}, pm_wfr h h' → sm_S S 0 h' := fun {h'} hf => sm_fr ok HS hf.1 (by decide)
  rw [pm_b HS ok (x := 1) (w := 1) rfl hb (by decide), Option.bind_some]
  obtain ⟨x1, e1, H1, f1⟩ := pm_putNumber H (show sp_b S b 1 ≤ 9999 by omega) (by omega)
  rw [e1, Option.bind_some]
  obtain ⟨x2, e2, H2, f2⟩ := pm_put (x := 64) (b := 64) H1 (by rw [sp_apps_len]; omega) rfl
  have f12 := pm_wfr_trans f1 f2
  rw [e2, Option.bind_some, pm_b (hS f12) ok (x := 2) (w := 2) rfl hb (by decide), Option.bind_some]
  obtain ⟨x3, e3, H3, f3⟩ := pm_putNumber H2 he (by show (sp_apps T _).1 + 1 + 4 ≤ 300; rw [sp_apps_len]; omega)
  have f13 := pm_wfr_trans f12 f3
  rw [e3, Option.bind_some, pm_past (hS f13) ok hb, Option.bind_some]
  dsimp only [mm_jn]
  by_cases hc : sp_b S b 2 < sp_dy S
  · rw [if_pos (decide_eq_true hc)]
    obtain ⟨x4, e4, H4, f4⟩ := pm_put (x := 33) (b := 33) H3 (by rw [sp_apps_len]; show (sp_apps T _).1 + 1 + _ < 300; rw [sp_apps_len]; omega) rfl
    rw [e4, Option.bind_some]
    exact ⟨x4, rfl, by unfold sp_wb1; rw [if_pos hc]; exact H4, pm_wfr_trans f13 f4⟩
  · rw [if_neg (by rw [decide_eq_false hc]; decide)]
    exact ⟨x3, rfl, by unfold sp_wb1; rw [if_neg hc]; exact H3, f13⟩
end PQJ

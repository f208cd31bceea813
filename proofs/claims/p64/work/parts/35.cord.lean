section PPF
/-! frames; the class's BatchOrder -/
def po_fr (C : Nat → Bool) (h h' : mm_H) : Prop := (∀ o, C o = false → ∀ k, mh_I h' o k = mh_I h o k) ∧ h'.1 = h.1 ∧ mh_R h' = mh_R h ∧ mh_J h' = mh_J h ∧ mh_D h' = mh_D h
theorem po_fr_refl {C : Nat → Bool} (h : mm_H) : po_fr C h h := ⟨fun _ _ _ => rfl, rfl, rfl, rfl, rfl⟩
theorem po_fr_trans {C : Nat → Bool} {a b c : mm_H} (h1 : po_fr C a b) (h2 : po_fr C b c) : po_fr C a c :=
  ⟨fun o ho k => (h2.1 o ho k).trans (h1.1 o ho k), h2.2.1.trans h1.2.1, h2.2.2.1.trans h1.2.2.1, h2.2.2.2.1.trans h1.2.2.2.1, h2.2.2.2.2.trans h1.2.2.2.2⟩
theorem po_fr_mono {C D : Nat → Bool} {a b : mm_H} (h1 : po_fr C a b) (hd : ∀ o, D o = false → C o = false) : po_fr D a b := ⟨fun o ho k => h1.1 o (hd o ho) k, h1.2⟩
theorem po_fr_I {C : Nat → Bool} {h : mm_H} {o k : Nat} {v : Int32} (hc : C o = true) : po_fr C h (ms_I h o k v) :=
  ⟨fun p hp j => po_I3 (fun z => by rw [z, hc] at hp; cases hp), rfl, rfl, rfl, rfl⟩
theorem po_fr_Y {C : Nat → Bool} {h : mm_H} {o : Nat} {f : Nat → Int32} (hc : C o = true) : po_fr C h (ms_Y h o f) :=
  ⟨fun p hp j => if_neg (fun z => by rw [z, hc] at hp; cases hp), rfl, rfl, rfl, rfl⟩
/-- the Stock o among others -/
def po_in (o : Nat) (q : Nat) : Bool := decide (o ≤ q ∧ q < o + 31)
theorem po_in_f {o k : Nat} (hk : k < 31) : po_in o (o + k) = true := decide_eq_true ⟨by omega, by omega⟩
theorem sc_fr {S : sp_S} {o : Nat} {h h' : mm_H} {C : Nat → Bool} (H : sc_S S o h) (hf : po_fr C h h') (hC : ∀ q, po_in o q = true → C q = false) : sc_S S o h' := by
  have e : ∀ k, k < 31 → ∀ j, mh_I h' (o + k) j = mh_I h (o + k) j := fun k hk j => hf.1 _ (hC _ (po_in_f hk)) j
  refine ⟨⟨(e 0 (by decide) 0).trans H.1.1, (e 0 (by decide) 1).trans H.1.2.1, (e 0 (by decide) 7).trans H.1.2.2⟩, fun b hb => ?_, fun r hr => ?_, fun p hp => ?_⟩
  · obtain ⟨h1, h2, h3, h4, h5⟩ := H.2.1 b hb
    exact ⟨(e 2 (by decide) b).trans h1, (e 4 (by decide) b).trans h2, (e 6 (by decide) b).trans h3, (e 8 (by decide) b).trans h4, (e 10 (by decide) b).trans h5⟩
  · obtain ⟨h1, h2, h3, h4, h5⟩ := H.2.2.1 r hr
    exact ⟨(e 12 (by decide) r).trans h1, (e 14 (by decide) r).trans h2, (e 16 (by decide) r).trans h3, (e 18 (by decide) r).trans h4, fun b hb => (e 20 (by decide) _).trans (h5 b hb)⟩
  · obtain ⟨h1, h2, h3, h4⟩ := H.2.2.2 p hp
    exact ⟨(e 22 (by decide) p).trans h1, by rw [e 24 (by decide), e 26 (by decide)]; exact h2, (e 28 (by decide) p).trans h3, (e 30 (by decide) p).trans h4⟩
/-- the ids of BatchOrder -/
def po_od (q : Nat) : Bool := q == 347 || (q == 349 || q == 351)
theorem po_od_in {o : Nat} (ho : o < 317) : ∀ q, po_in o q = true → po_od q = false := by
  intro q hq
  obtain ⟨h1, h2⟩ := of_decide_eq_true hq
  unfold po_od
  have a1 : (q == 347) = false := by simp; omega
  have a2 : (q == 349) = false := by simp; omega
  have a3 : (q == 351) = false := by simp; omega
  rw [a1, a2, a3]
  rfl
theorem po_kd7 {o : Nat} (hk : mm_kd o = (0, 7)) : o < 317 := by
  have h9 : ∀ o, o < 352 → mm_kd o = (0, 7) → o < 317 := by decide +kernel
  exact h9 o (mm_kd_lt hk (by decide)) hk
theorem po_c348 : mm_cap 348 = 20 := by decide +kernel
theorem po_c350 : mm_cap 350 = 20 := by decide +kernel
theorem po_p348 {w : Nat} {v : Int32} {h : mm_H} (hw : w < 20) : gX4_put 348 (nI w) v h = some (ms_I h 349 w v) := po_put (by rw [po_c348]; exact hw) (by decide +kernel)
theorem po_p350 {w : Nat} {v : Int32} {h : mm_H} (hw : w < 20) : gX4_put 350 (nI w) v h = some (ms_I h 351 w v) := po_put (by rw [po_c350]; exact hw) (by decide +kernel)
theorem po_g348 {w : Nat} {h : mm_H} (hw : w < 20) : gX4_get 348 (nI w) h = some (mh_I h 349 w) := po_get (by rw [po_c348]; exact hw) (by decide +kernel)
theorem po_g350 {w : Nat} {h : mm_H} (hw : w < 20) : gX4_get 350 (nI w) h = some (mh_I h 351 w) := po_get (by rw [po_c350]; exact hw) (by decide +kernel)
theorem po_h2 {h : mm_H} {w i : Nat} {a b : Int32} : mh_I (ms_I (ms_I h 349 w a) 351 w b) 349 i = (if i = w then a else mh_I h 349 i) ∧ mh_I (ms_I (ms_I h 349 w a) 351 w b) 351 i = (if i = w then b else mh_I h 351 i) := by
  by_cases hi : i = w
  · subst hi
    rw [po_I3 (by decide), po_I1, po_I1, if_pos rfl, if_pos rfl]
    exact ⟨rfl, rfl⟩
  · rw [po_I3 (by decide), po_I4 hi, po_I4 hi, po_I3 (by decide), if_neg hi, if_neg hi]
    exact ⟨rfl, rfl⟩
/-- BatchOrder holds the list -/
def sc_ord (l : List Nat) (e : Nat → Nat) (h : mm_H) : Prop := mh_I h 347 0 = nI l.length ∧ ∀ i, i < l.length → mh_I h 349 i = nI (l.getD i 0) ∧ mh_I h 351 i = nI (e (l.getD i 0))
theorem pc_insert {l : List Nat} {e : Nat → Nat} {x : Nat} {h : mm_H} (H : sc_ord l e h) (hs : sp_srt e l) (hl : l.length < 20) (he : ∀ z, z ∈ l → e z ≤ 9999) (hx : e x ≤ 9999) :
    ∃ h', gX0_insert (nI x) (nI (e x)) h = some h' ∧ sc_ord (sp_ins e x l) e h' ∧ po_fr po_od h h' := by
  have hmem : ∀ j, j < l.length → l.getD j 0 ∈ l := fun j hj => by
    rw [List.getD_eq_getElem?_getD, List.getElem?_eq_getElem hj]
    exact List.getElem_mem hj
  have hsort : ∀ {l : List Nat}, sp_srt e l → ∀ i j, i < j → j < l.length → e (l.getD i 0) ≤ e (l.getD j 0) := by
    intro l
    induction l with
    | nil => intro _ i j _ hj; exact absurd hj (Nat.not_lt_zero _)
    | cons y t ih =>
      intro hs i j hij hj
      obtain ⟨j', rfl⟩ : ∃ k, j = k + 1 := ⟨j - 1, by omega⟩
      have hj' : j' < t.length := by simpa using hj
      have hm : t.getD j' 0 ∈ t := by
        rw [List.getD_eq_getElem?_getD, List.getElem?_eq_getElem hj']
        exact List.getElem_mem hj'
      cases i with
      | zero => exact (hs.1 _ hm).1
      | succ i => exact ih hs.2 i j' (by omega) hj'
  -- the end: at place w
  have fin : ∀ w h1, w ≤ l.length → po_fr po_od h h1 → mh_I h1 347 0 = nI l.length → (∀ j, j < w → mh_I h1 349 j = nI (l.getD j 0) ∧ mh_I h1 351 j = nI (e (l.getD j 0))) →
      (∀ j, w < j → j ≤ l.length → mh_I h1 349 j = nI (l.getD (j - 1) 0) ∧ mh_I h1 351 j = nI (e (l.getD (j - 1) 0))) → (∀ j, j < w → e (l.getD j 0) ≤ e x) → (∀ j, w ≤ j → j < l.length → e x < e (l.getD j 0)) →
      ∃ h', (gX4_put 348 (nI w) (nI x) h1).bind (fun h7 => (gX4_put 350 (nI w) (nI (e x)) h7).bind (fun h9 => (some (ms_I h9 347 0 (((mh_I h9 347 0) + 1)))).bind (fun h11 => some h11))) = some h' ∧ sc_ord (sp_ins e x l) e h' ∧ po_fr po_od h h' := by
    intro w h1 hw hf hz h2 h3 hlow h4
    rw [po_p348 (by omega)]
    simp only [Option.bind_some]
    rw [po_p350 (by omega)]
    simp only [Option.bind_some]
    refine ⟨_, rfl, ⟨?_, fun i hi => ?_⟩, po_fr_trans hf (po_fr_trans (po_fr_trans (po_fr_I (by decide)) (po_fr_I (by decide))) (po_fr_I (by decide)))⟩
    · rw [po_I1, po_I3 (by decide), po_I3 (by decide), hz, sp_ins_len, nI_1]
    · rw [sp_ins_len] at hi
      rw [po_I3 (show 349 ≠ 347 by decide), po_I3 (show 351 ≠ 347 by decide), po_h2.1, po_h2.2, sp_ins_cut hw hlow h4, sp_cut_get hw (by omega)]
      by_cases hi0 : i < w
      · have hi9 : ¬ i = w := by omega
        simp only [if_neg hi9, if_pos hi0]
        exact h2 i hi0
      · by_cases hi1 : i = w
        · simp only [if_neg hi0, if_pos hi1, and_self]
        · simp only [if_neg hi0, if_neg hi1]
          exact h3 i (by omega) (by omega)
  -- the loop: at place w
  have key : ∀ w n h1, w ≤ l.length → w < n → po_fr po_od h h1 → mh_I h1 347 0 = nI l.length → (∀ j, j < w → mh_I h1 349 j = nI (l.getD j 0) ∧ mh_I h1 351 j = nI (e (l.getD j 0))) →
      (∀ j, w < j → j ≤ l.length → mh_I h1 349 j = nI (l.getD (j - 1) 0) ∧ mh_I h1 351 j = nI (e (l.getD (j - 1) 0))) → (∀ j, w ≤ j → j < l.length → e x < e (l.getD j 0)) →
      ∃ h', gX0_insert_L5 (nI x) (nI (e x)) n (nI w) h1 = some h' ∧ sc_ord (sp_ins e x l) e h' ∧ po_fr po_od h h' := by
    intro w
    induction w with
    | zero =>
      intro n h1 hw hn hf hz h2 h3 h4
      obtain ⟨n, rfl⟩ : ∃ k, n = k + 1 := ⟨n - 1, by omega⟩
      rw [gX0_insert_L5, mm_jn, if_neg (po_n0lt (b := 0) (by omega))]
      exact fin 0 h1 hw hf hz h2 h3 (fun j hj => absurd hj (Nat.not_lt_zero _)) h4
    | succ w ih =>
      intro n h1 hw hn hf hz h2 h3 h4
      obtain ⟨n, rfl⟩ : ∃ k, n = k + 1 := ⟨n - 1, by omega⟩
      rw [gX0_insert_L5, mm_jn]
      have hxw := he _ (hmem w (by omega))
      rw [if_pos (po_0lt (Nat.succ_pos w) (by omega)), nI_pred, po_g350 (by omega), (h2 w (Nat.lt_succ_self w)).2, Option.bind_some]
      by_cases hc : e x < e (l.getD w 0)
      · rw [if_pos (nI_lt hc (by omega)), po_g348 (by omega), Option.bind_some, po_p348 (by omega), Option.bind_some, po_g350 (by omega), Option.bind_some, po_p350 (by omega), Option.bind_some, Option.bind_some, pk_m1]
        refine ih n _ (by omega) (by omega) (po_fr_trans hf (po_fr_trans (po_fr_I (by decide)) (po_fr_I (by decide)))) ?_ (fun j hj => ?_) (fun j hj hj2 => ?_) (fun j hj hj2 => ?_)
        · rw [po_I3 (by decide), po_I3 (by decide)]
          exact hz
        · rw [po_h2.1, po_h2.2, if_neg (by omega), if_neg (by omega)]
          exact h2 j (by omega)
        · rw [po_h2.1, po_h2.2]
          by_cases hj3 : j = w + 1
          · subst hj3
            rw [if_pos rfl, if_pos rfl, po_I3 (by decide)]
            exact h2 w (by omega)
          · rw [if_neg hj3, if_neg hj3]
            exact h3 j (by omega) hj2
        · by_cases hj3 : j = w
          · rw [hj3]; exact hc
          · exact h4 j (by omega) hj2
      · rw [if_neg (nI_nlt (by omega) (by omega))]
        refine fin (w + 1) h1 hw hf hz h2 h3 (fun j hj => ?_) h4
        by_cases hj3 : j = w
        · rw [hj3]; omega
        · have := hsort hs j w (by omega) (by omega)
          omega
  unfold gX0_insert
  rw [H.1]
  simp only [Option.bind_some]
  exact key l.length mm_F h (Nat.le_refl _) (Nat.lt_trans hl (by decide)) (po_fr_refl h) H.1 H.2 (fun j h1 h2 => by omega) (fun j h1 h2 => by omega)
variable {S : sp_S} {o : Nat} {h : mm_H}
def sp_e (S : sp_S) (b : Nat) : Nat := sp_b S b 2
def sp_ord (S : sp_S) (p d : Nat) : List Nat := sp_ordk (sp_e S) (sp_el S p d) (sp_nb S)
def sp_is (S : sp_S) (p b : Nat) : Bool := decide (sp_b S b 0 = p ∧ 0 < sp_b S b 1)
def sp_ins0 (S : sp_S) (p : Nat) : List Nat := sp_ordk (sp_e S) (sp_is S p) (sp_nb S)
theorem pc_empty : ∃ h', gX0_empty h = some h' ∧ sc_ord [] (sp_e S) h' ∧ po_fr po_od h h' :=
  ⟨_, rfl, ⟨po_I1, fun i hi => absurd hi (Nat.not_lt_zero _)⟩, po_fr_I (by decide)⟩
theorem pc_e9 (ok : sp_ok S) {c : Nat → Bool} {i : Nat} (hi : i ≤ sp_nb S) : ∀ z, z ∈ sp_ordk (sp_e S) c i → sp_e S z ≤ 9999 := fun z hz => (ok.2.1 z (Nat.lt_of_lt_of_le (sp_ordk_mem.mp hz).1 hi)).2.2.1
theorem pc_issueOrder (hk : mm_kd o = (0, 7)) (H : sc_S S o h) (ok : sp_ok S) {p d : Nat} (hp : p < 2 ^ 31) (hd : d < 2 ^ 31) :
    ∃ h', gX7_collectIssueOrder o (nI p) (nI d) h = some h' ∧ sc_ord (sp_ord S p d) (sp_e S) h' ∧ po_fr po_od h h' := by
  unfold gX7_collectIssueOrder
  obtain ⟨h1, e1, o1, f1⟩ := pc_empty (S := S) (h := h)
  rw [e1]
  simp only [Option.bind_some]
  refine po_loop (fun n i h => gX7_collectIssueOrder_L7 o (nI p) (nI d) n (nI i) h) (sp_nb S) (fun i h' => sc_ord (sp_ordk (sp_e S) (sp_el S p d) i) (sp_e S) h' ∧ po_fr po_od h h') _ (fun n h2 hI => ?_) (fun n i h2 hi hI => ?_) mm_F 0 h1 (Nat.zero_le _) (pc_nbF ok) ⟨o1, f1⟩
  · have H2 := sc_fr H hI.2 (po_od_in (po_kd7 hk))
    try dsimp only
    rw [gX7_collectIssueOrder_L7, if_neg (pc_nlt H2 ok)]
    exact ⟨h2, rfl, hI⟩
  · have H2 := sc_fr H hI.2 (po_od_in (po_kd7 hk))
    try dsimp only
    rw [gX7_collectIssueOrder_L7, if_pos (pc_lt H2 ok hi), pc_isOf hk H2 ok hi hp]
    simp only [mm_jn, Option.bind_some, nI_1]
    have no : sp_el S p d i ≠ true → ∃ s', (sc_ord (sp_ordk (sp_e S) (sp_el S p d) (i + 1)) (sp_e S) s' ∧ po_fr po_od h s') ∧ gX7_collectIssueOrder_L7 o (nI p) (nI d) n (nI (i + 1)) h2 = gX7_collectIssueOrder_L7 o (nI p) (nI d) n (nI (i + 1)) s' := fun hc => by
      refine ⟨h2, ?_, rfl⟩
      unfold sp_ordk
      rw [if_neg hc]
      exact hI
    by_cases hc : sp_b S i 0 = p
    · rw [if_pos (decide_eq_true hc), pc_lasts hk H2 ok hi hd]
      simp only [Option.bind_some]
      by_cases hc2 : d ≤ sp_b S i 2
      · rw [if_pos (decide_eq_true hc2), pc_free hk H2 ok hi]
        simp only [Option.bind_some]
        have h5 := sp_free_le ok hi
        by_cases hc3 : 0 < sp_free S i
        · rw [if_pos (po_0lt hc3 (by omega)), pc_g7 hk H2 ok hi]
          simp only [Option.bind_some]
          have hlen : (sp_ordk (sp_e S) (sp_el S p d) i).length < 20 := Nat.lt_of_le_of_lt sp_ordk_len (pc_b20 ok hi)
          obtain ⟨h3, e3, o3, f3⟩ := pc_insert (x := i) hI.1 sp_ordk_srt hlen (pc_e9 ok (Nat.le_of_lt hi)) (ok.2.1 i hi).2.2.1
          have e3' : gX0_insert (nI i) (nI (sp_b S i 2)) h2 = some h3 := e3
          rw [e3']
          refine ⟨h3, ⟨?_, po_fr_trans hI.2 f3⟩, rfl⟩
          unfold sp_ordk
          rw [if_pos (show sp_el S p d i = true from decide_eq_true ⟨hc, hc2, hc3⟩)]
          exact o3
        · rw [if_neg (po_n0lt (by omega))]
          exact no (fun z => hc3 (of_decide_eq_true z).2.2)
      · rw [if_neg (by rw [decide_eq_false hc2]; decide)]
        exact no (fun z => hc2 (of_decide_eq_true z).2.1)
    · rw [if_neg (by rw [decide_eq_false hc]; decide)]
      exact no (fun z => hc (of_decide_eq_true z).1)
end PPF

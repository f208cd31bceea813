section POW
/-! the law's own stock: what it holds, its questions -/
/-- the law's Stock o holds O's units and allocations -/
def so_S (O : sp_S) (o : Nat) (h : mm_H) : Prop := mh_I h o 3 = nI (sp_nb O) ∧ mh_I h o 4 = nI (sp_nr O) ∧ (∀ b, b < sp_nb O → mh_I h (o + 1) b = nI (sp_b O b 1)) ∧ ∀ r, r < sp_nr O → ∀ b, b < sp_nb O → mh_I h (o + 3 + r) b = nI (sp_al O r b)
/-- what the law asks the class is the same -/
def so_C (O S : sp_S) : Prop := (sp_nb O = sp_nb S ∧ sp_nr O = sp_nr S ∧ sp_dy O = sp_dy S) ∧ (∀ b w, b < sp_nb O → w ≠ 1 → sp_b O b w = sp_b S b w) ∧ ∀ r, r < sp_nr O → sp_r O r 3 = sp_r S r 3
theorem so_C_refl (S : sp_S) : so_C S S := ⟨⟨rfl, rfl, rfl⟩, fun _ _ _ _ => rfl, fun _ _ => rfl⟩
theorem so_fr {O : sp_S} {o : Nat} {h h' : mm_H} {D : Nat → Bool} (K : so_S O o h) (hf : po_fr D h h') (h0 : ∀ q, 352 ≤ q → D q = false) (ho : 352 ≤ o) : so_S O o h' :=
  ⟨(hf.1 o (h0 _ ho) 3).trans K.1, (hf.1 o (h0 _ ho) 4).trans K.2.1, fun b hb => (hf.1 _ (h0 _ (by omega)) b).trans (K.2.2.1 b hb), fun r hr b hb => (hf.1 _ (h0 _ (by omega)) b).trans (K.2.2.2 r hr b hb)⟩
theorem po_fc_352 : ∀ q, 352 ≤ q → po_fc q = false := fun q hq => decide_eq_false (by omega)
variable {A : sp_A} {O : sp_S} {o : Nat} {h : mm_H}
theorem so_held (H : ra_c A h) (ok : sa_ok A) (C : so_C O (sa_S A)) (okO : sp_ok O) (K : so_S O o h) {b : Nat} (hb : b < sp_nb O) : gX11_held o (nI b) h = some (.inl (nI (sp_held O b)), h) := by
  have hn := okO.1.2.2
  have hm := okO.1.2.1
  unfold gX11_held
  refine po_loopF (fun n i s => gX11_held_L4 o (nI b) n (nI s) (nI i) h) (sp_nr O) (sp_sum (fun r => if sp_r O r 3 = 0 then sp_al O r b else 0)) _ (fun n => ?_) (fun n i hi => ?_) mm_F 0 (Nat.zero_le _) (Nat.lt_of_le_of_lt (Nat.sub_le _ _) (Nat.lt_of_le_of_lt hn (by decide)))
  · try dsimp only
    rw [gX11_held_L4, K.2.1, if_neg (nI_nlt (Nat.le_refl _) (by omega))]
    rfl
  · try dsimp only
    rw [gX11_held_L4, K.2.1, if_pos (nI_lt hi (by omega)), cq_isOpen H ok (r := i) (by rw [← C.1.2.1]; exact hi), Option.bind_some]
    simp only [mm_jn, Option.bind_some, nI_1, sp_sum]
    by_cases h3 : sp_r O i 3 = 0
    · have h4 : sp_r (sa_S A) i 3 = 0 := (C.2.2 i hi).symm.trans h3
      rw [if_pos (decide_eq_true h4), if_pos (po_ibd (n := 10) (by omega) (by decide)), if_pos (po_ibd (n := 20) (by omega) (by decide)), nI_clamp (by omega), nI_clamp (by omega), K.2.2.2 i hi b hb, nI_add, if_pos h3]
    · have h4 : ¬ sp_r (sa_S A) i 3 = 0 := fun z => h3 ((C.2.2 i hi).trans z)
      rw [if_neg (by rw [decide_eq_false h4]; decide), if_neg h3, show (0 : Int32) = nI 0 from rfl, nI_add]
/-- the first of the batches that can give -/
theorem sp_ordk_hd {e : Nat → Nat} {c : Nat → Bool} : ∀ {n b : Nat} {t : List Nat}, sp_ordk e c n = b :: t → ∀ z, z < n → c z = true → e b < e z ∨ (e b = e z ∧ b ≤ z) := by
  intro n
  induction n with
  | zero =>
    intro b t h
    cases h
  | succ n ih =>
    intro b t h z hz hcz
    rw [sp_ordk] at h
    by_cases hc : c n = true
    · rw [if_pos hc] at h
      cases hl : sp_ordk e c n with
      | nil =>
        rw [hl] at h
        cases h
        by_cases hzn : z = n
        · subst hzn
          exact Or.inr ⟨rfl, Nat.le_refl _⟩
        · have := (sp_ordk_mem (e := e) (c := c) (n := n) (x := z)).mpr ⟨by omega, hcz⟩
          rw [hl] at this
          cases this
      | cons y s =>
        rw [hl, sp_ins_cons] at h
        have hy := (sp_ordk_mem (e := e) (c := c) (n := n) (x := y)).mp (by rw [hl]; exact List.mem_cons_self)
        by_cases hlt : e n < e y
        · rw [if_pos hlt] at h
          rw [← (List.cons.inj h).1]
          by_cases hzn : z = n
          · subst hzn
            exact Or.inr ⟨rfl, Nat.le_refl _⟩
          · have h1 := ih hl z (by omega) hcz
            exact Or.inl (by omega)
        · rw [if_neg hlt] at h
          rw [← (List.cons.inj h).1]
          by_cases hzn : z = n
          · subst hzn
            rcases Nat.lt_or_ge (e y) (e z) with h1 | h1
            · exact Or.inl h1
            · exact Or.inr ⟨by omega, by omega⟩
          · exact ih hl z (by omega) hcz
    · rw [if_neg hc] at h
      by_cases hzn : z = n
      · subst hzn
        exact absurd hcz hc
      · exact ih h z (by omega) hcz
/-- the best of the batches from i on -/
def so_B (O : sp_S) (p d i : Nat) : Option Nat → Prop
  | none => ∀ z, i ≤ z → z < sp_nb O → sp_el O p d z = false
  | some b => (i ≤ b ∧ b < sp_nb O ∧ sp_el O p d b = true) ∧ ∀ z, i ≤ z → z < sp_nb O → sp_el O p d z = true → sp_e O b < sp_e O z ∨ (sp_e O b = sp_e O z ∧ b ≤ z)
theorem so_B_end {p d : Nat} {a : Option Nat} (B : so_B O p d 0 a) : sp_fi a = sp_hd (sp_ord O p d) := by
  cases hl : sp_ord O p d with
  | nil =>
    cases a with
    | none => rfl
    | some b =>
      have := (sp_ordk_mem (e := sp_e O) (c := sp_el O p d) (n := sp_nb O) (x := b)).mpr ⟨B.1.2.1, B.1.2.2⟩
      rw [show sp_ordk (sp_e O) (sp_el O p d) (sp_nb O) = [] from hl] at this
      cases this
  | cons y t =>
    have hy := (sp_ordk_mem (e := sp_e O) (c := sp_el O p d) (n := sp_nb O) (x := y)).mp (by rw [show sp_ordk (sp_e O) (sp_el O p d) (sp_nb O) = y :: t from hl]; exact List.mem_cons_self)
    cases a with
    | none =>
      have := B y (Nat.zero_le _) hy.1
      rw [hy.2] at this
      cases this
    | some b =>
      have h1 := B.2 y (Nat.zero_le _) hy.1 hy.2
      have h2 := sp_ordk_hd (e := sp_e O) (c := sp_el O p d) hl b B.1.2.1 B.1.2.2
      have h3 : b = y := by omega
      rw [h3]
      rfl
theorem so_B_no {p d i : Nat} {a : Option Nat} (B : so_B O p d (i + 1) a) (he : sp_el O p d i = false) : so_B O p d i a := by
  cases a with
  | none =>
    intro z h1 h2
    by_cases hz : z = i
    · rw [hz]
      exact he
    · exact B z (by omega) h2
  | some b =>
    refine ⟨⟨by have := B.1.1; omega, B.1.2⟩, fun z h1 h2 h3 => ?_⟩
    by_cases hz : z = i
    · rw [hz, he] at h3
      cases h3
    · exact B.2 z (by omega) h2 h3
theorem so_B_first {p d i : Nat} (B : so_B O p d (i + 1) none) (hi : i < sp_nb O) (he : sp_el O p d i = true) : so_B O p d i (some i) := by
  refine ⟨⟨Nat.le_refl _, hi, he⟩, fun z h1 h2 h3 => ?_⟩
  by_cases hz : z = i
  · rw [hz]
    exact Or.inr ⟨rfl, Nat.le_refl _⟩
  · have := B z (by omega) h2
    rw [h3] at this
    cases this
theorem so_B_more {p d i b : Nat} (B : so_B O p d (i + 1) (some b)) (hi : i < sp_nb O) (he : sp_el O p d i = true) : so_B O p d i (some (if sp_e O b < sp_e O i then b else i)) := by
  by_cases hlt : sp_e O b < sp_e O i
  · rw [if_pos hlt]
    refine ⟨⟨by have := B.1.1; omega, B.1.2⟩, fun z h1 h2 h3 => ?_⟩
    by_cases hz : z = i
    · rw [hz]
      exact Or.inl hlt
    · exact B.2 z (by omega) h2 h3
  · rw [if_neg hlt]
    refine ⟨⟨Nat.le_refl _, hi, he⟩, fun z h1 h2 h3 => ?_⟩
    by_cases hz : z = i
    · rw [hz]
      exact Or.inr ⟨rfl, Nat.le_refl _⟩
    · rcases B.2 z (by omega) h2 h3 with h4 | h4
      · exact Or.inl (by omega)
      · rcases Nat.lt_or_ge (sp_e O i) (sp_e O z) with h5 | h5
        · exact Or.inl h5
        · exact Or.inr ⟨by omega, by omega⟩
theorem so_next_L (H : ra_c A h) (ok : sa_ok A) (C : so_C O (sa_S A)) (okO : sp_ok O) (K : so_S O o h) {p d : Nat} (hp : p < 2 ^ 31) (hd : d < 2 ^ 31) : ∀ i n a, i ≤ sp_nb O → i < n → so_B O p d i a → gX11_next_L10 o (nI p) (nI d) n (sp_fi a) (nI i + (-1)) h = some (.inl (sp_hd (sp_ord O p d)), h) := by
  have hm := okO.1.2.1
  intro i
  induction i with
  | zero =>
    intro n a hi hn B
    obtain ⟨m, rfl⟩ : ∃ m, n = m + 1 := ⟨n - 1, by omega⟩
    rw [gX11_next_L10, if_pos (by decide), so_B_end B]
  | succ i ih =>
    intro n a hi hn B
    obtain ⟨m, rfl⟩ : ∃ m, n = m + 1 := ⟨n - 1, by omega⟩
    have hb : i < sp_nb (sa_S A) := by rw [← C.1.1]; omega
    obtain ⟨q1, q2, q3, q4, q5⟩ := okO.2.1 i (by omega)
    have e0 : sp_b (sa_S A) i 0 = sp_b O i 0 := (C.2.1 i 0 (by omega) (by decide)).symm
    have e2 : sp_b (sa_S A) i 2 = sp_b O i 2 := (C.2.1 i 2 (by omega) (by decide)).symm
    rw [gX11_next_L10, sb_m1 (p := i + 1) (by omega), Nat.add_sub_cancel, if_neg (nI_pos (by omega)), cq_productOf H ok hb, Option.bind_some, e0]
    dsimp only [mm_jn]
    by_cases hpr : sp_b O i 0 = p
    · rw [if_pos (congrArg nI hpr), cq_expiryDay H ok hb, Option.bind_some, e2]
      dsimp only
      by_cases hex : sp_b O i 2 < d
      · have hel : sp_el O p d i = false := decide_eq_false (fun z => by omega)
        rw [if_pos (nI_lt hex hd), if_pos rfl, Option.bind_some]
        exact ih m a (by omega) (by omega) (so_B_no B hel)
      · rw [if_neg (nI_nlt (by omega) (by omega)), if_pos (po_ibd (n := 20) (by omega) (by decide)), so_held H ok C okO K (by omega), Option.bind_some]
        dsimp only
        rw [nI_clamp (by omega), K.2.2.1 i (by omega)]
        by_cases hfr : sp_held O i < sp_b O i 1
        · have hel : sp_el O p d i = true := decide_eq_true ⟨hpr, by omega, by unfold sp_free; omega⟩
          rw [if_pos (nI_lt hfr (by omega)), if_neg (by decide)]
          cases a with
          | none =>
            rw [if_pos (show sp_fi none < 0 by decide), Option.bind_some]
            exact ih m (some i) (by omega) (by omega) (so_B_first B (by omega) hel)
          | some b =>
            have hb1 : b < sp_nb O := B.1.2.1
            have hb2 : b < sp_nb (sa_S A) := by rw [← C.1.1]; exact hb1
            obtain ⟨g1, g2, g3, g4, g5⟩ := okO.2.1 b hb1
            have e3 : sp_b (sa_S A) b 2 = sp_b O b 2 := (C.2.1 b 2 hb1 (by decide)).symm
            have Bm := so_B_more B (by omega) hel
            rw [show sp_fi (some b) = nI b from rfl, if_neg (nI_pos (by omega)), cq_expiryDay H ok hb, Option.bind_some]
            dsimp only
            rw [cq_expiryDay H ok hb2, Option.bind_some, e2, e3]
            dsimp only
            by_cases hlt : sp_b O b 2 < sp_b O i 2
            · rw [if_pos (show sp_e O b < sp_e O i from hlt)] at Bm
              rw [if_pos (nI_lt hlt (by omega)), Option.bind_some]
              exact ih m (some b) (by omega) (by omega) Bm
            · rw [if_neg (show ¬ sp_e O b < sp_e O i from hlt)] at Bm
              rw [if_neg (nI_nlt (by omega) (by omega)), Option.bind_some]
              exact ih m (some i) (by omega) (by omega) Bm
        · have hel : sp_el O p d i = false := decide_eq_false (fun z => hfr (by have := z.2.2; unfold sp_free at this; omega))
          rw [if_neg (nI_nlt (by omega) (by omega)), if_pos rfl, Option.bind_some]
          exact ih m a (by omega) (by omega) (so_B_no B hel)
    · have hel : sp_el O p d i = false := decide_eq_false (fun z => hpr z.1)
      rw [if_neg (fun z => hpr ((nI_eq (by omega) hp).mp z)), if_pos rfl, Option.bind_some]
      exact ih m a (by omega) (by omega) (so_B_no B hel)
theorem so_next (H : ra_c A h) (ok : sa_ok A) (C : so_C O (sa_S A)) (okO : sp_ok O) (K : so_S O o h) {p d : Nat} (hp : p < 2 ^ 31) (hd : d < 2 ^ 31) : gX11_next o (nI p) (nI d) h = some (.inl (sp_hd (sp_ord O p d)), h) := by
  have hm := okO.1.2.1
  unfold gX11_next
  rw [Option.bind_some, K.1, Int32.sub_eq_add_neg]
  exact so_next_L H ok C okO K hp hd (sp_nb O) mm_F none (Nat.le_refl _) (Nat.lt_of_le_of_lt hm (by decide)) (fun z h1 h2 => by omega)
theorem so_free (H : ra_c A h) (ok : sa_ok A) (C : so_C O (sa_S A)) (okO : sp_ok O) (K : so_S O o h) {p d : Nat} (hp : p < 2 ^ 31) (hd : d < 2 ^ 31) : gX11_free o (nI p) (nI d) h = some (.inl (nI (sp_av O p d)), h) := by
  have hm := okO.1.2.1
  unfold gX11_free
  refine po_loopF (fun n i s => gX11_free_L5 o (nI p) (nI d) n (nI s) (nI i) h) (sp_nb O) (sp_sum (fun b => if sp_b O b 0 = p ∧ d ≤ sp_b O b 2 then sp_free O b else 0)) _ (fun n => ?_) (fun n i hi => ?_) mm_F 0 (Nat.zero_le _) (Nat.lt_of_le_of_lt (Nat.sub_le _ _) (Nat.lt_of_le_of_lt hm (by decide)))
  · try dsimp only
    rw [gX11_free_L5, K.1, if_neg (nI_nlt (Nat.le_refl _) (by omega))]
    rfl
  · try dsimp only
    have hb : i < sp_nb (sa_S A) := by rw [← C.1.1]; omega
    obtain ⟨q1, q2, q3, q4, q5⟩ := okO.2.1 i hi
    have e0 : sp_b (sa_S A) i 0 = sp_b O i 0 := (C.2.1 i 0 (by omega) (by decide)).symm
    have e2 : sp_b (sa_S A) i 2 = sp_b O i 2 := (C.2.1 i 2 (by omega) (by decide)).symm
    rw [gX11_free_L5, K.1, if_pos (nI_lt hi (by omega)), cq_productOf H ok hb, Option.bind_some, e0]
    simp only [mm_jn, Option.bind_some, nI_1, sp_sum]
    by_cases hpr : sp_b O i 0 = p
    · rw [if_pos (congrArg nI hpr), cq_expiryDay H ok hb, Option.bind_some, e2]
      dsimp only
      by_cases hex : sp_b O i 2 < d
      · rw [if_pos (nI_lt hex hd), if_neg (fun z => by omega), show (0 : Int32) = nI 0 from rfl, nI_add]
      · rw [if_neg (nI_nlt (by omega) (by omega)), if_pos (po_ibd (n := 20) (by omega) (by decide)), so_held H ok C okO K (by omega), Option.bind_some]
        dsimp only
        rw [nI_clamp (by omega), K.2.2.1 i (by omega), pk_sub q5, nI_add, if_pos ⟨hpr, by omega⟩]
        rfl
    · rw [if_neg (fun z => hpr ((nI_eq (by omega) hp).mp z)), if_neg (fun z => hpr z.1), show (0 : Int32) = nI 0 from rfl, nI_add]
end POW

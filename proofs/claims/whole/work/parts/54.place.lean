section PPZ
/-! the place of a batch in the issue order -/
/-- ahead: earlier expiry, or the same and a smaller number -/
def sp_bf (e : Nat → Nat) (j k : Nat) : Bool := decide (e j < e k ∨ (e j = e k ∧ j < k))
def sp_lex (e : Nat → Nat) : List Nat → Prop
  | [] => True
  | y :: t => (∀ z, z ∈ t → sp_bf e y z = true) ∧ sp_lex e t
theorem sp_bf_irr {e : Nat → Nat} {j k : Nat} (h : sp_bf e j k = true) : sp_bf e k j = false := by
  have h1 := of_decide_eq_true h
  exact decide_eq_false (by omega)
theorem sp_bf_self {e : Nat → Nat} {k : Nat} : sp_bf e k k = false := decide_eq_false (by omega)
theorem sp_ins_lex {e : Nat → Nat} {x : Nat} : ∀ {l : List Nat}, sp_lex e l → (∀ z, z ∈ l → z < x) → sp_lex e (sp_ins e x l)
  | [], _, _ => ⟨fun z hz => (by cases hz), trivial⟩
  | y :: t, hl, hx => by
    rw [sp_ins_cons]
    by_cases h : e x < e y
    · rw [if_pos h]
      refine ⟨fun z hz => ?_, hl⟩
      rcases List.mem_cons.mp hz with h1 | h1
      · rw [h1]
        exact decide_eq_true (Or.inl h)
      · have h2 := of_decide_eq_true (hl.1 z h1)
        exact decide_eq_true (by omega)
    · rw [if_neg h]
      refine ⟨fun z hz => ?_, sp_ins_lex hl.2 (fun z hz => hx z (List.mem_cons_of_mem _ hz))⟩
      rcases sp_ins_mem.mp hz with h1 | h1
      · have h3 := hx y List.mem_cons_self
        rw [h1]
        exact decide_eq_true (by omega)
      · exact hl.1 z h1
theorem sp_ordk_lex {e : Nat → Nat} {c : Nat → Bool} : ∀ {n : Nat}, sp_lex e (sp_ordk e c n)
  | 0 => trivial
  | n + 1 => by
    show sp_lex e (if c n = true then sp_ins e n (sp_ordk e c n) else sp_ordk e c n)
    by_cases h : c n = true
    · rw [if_pos h]
      exact sp_ins_lex sp_ordk_lex (fun z hz => (sp_ordk_mem.mp hz).1)
    · rw [if_neg h]
      exact sp_ordk_lex
theorem sp_lsum_0 {f : Nat → Nat} : ∀ {l : List Nat}, (∀ z, z ∈ l → f z = 0) → sp_lsum f l = 0
  | [], _ => rfl
  | b :: t, h => by
    show f b + sp_lsum f t = 0
    rw [h b List.mem_cons_self, sp_lsum_0 (fun z hz => h z (List.mem_cons_of_mem _ hz))]
def sp_bfn (e : Nat → Nat) (k j : Nat) : Nat := if sp_bf e j k = true then 1 else 0
/-- the number of batches ahead is the index -/
theorem sp_lex_at {e : Nat → Nat} : ∀ {l : List Nat} {i : Nat}, sp_lex e l → i < l.length → sp_lsum (sp_bfn e (l.getD i 0)) l = i
  | [], i, _, h => absurd h (Nat.not_lt_zero _)
  | b :: t, 0, hl, _ => by
    show sp_bfn e b b + sp_lsum (sp_bfn e b) t = 0
    have h1 : sp_bfn e b b = 0 := by
      unfold sp_bfn
      rw [sp_bf_self]
      rfl
    rw [h1, sp_lsum_0 (fun z hz => ?_)]
    unfold sp_bfn
    rw [sp_bf_irr (hl.1 z hz)]
    rfl
  | b :: t, i + 1, hl, h => by
    have hi : i < t.length := Nat.lt_of_succ_lt_succ h
    show sp_bfn e (t.getD i 0) b + sp_lsum (sp_bfn e (t.getD i 0)) t = i + 1
    have hm : t.getD i 0 ∈ t := by
      rw [List.getD_eq_getElem?_getD, List.getElem?_eq_getElem hi]
      exact List.getElem_mem hi
    have h1 : sp_bfn e (t.getD i 0) b = 1 := by
      unfold sp_bfn
      rw [hl.1 _ hm]
      rfl
    rw [h1, sp_lex_at hl.2 hi]
    omega
theorem sp_mem_at {l : List Nat} {x : Nat} (h : x ∈ l) : ∃ i, i < l.length ∧ l.getD i 0 = x := by
  obtain ⟨i, hi, he⟩ := List.mem_iff_getElem.mp h
  exact ⟨i, hi, by rw [List.getD_eq_getElem?_getD, List.getElem?_eq_getElem hi]; exact he⟩
theorem sp_at_mem {l : List Nat} {i : Nat} (hi : i < l.length) : l.getD i 0 ∈ l := by
  rw [List.getD_eq_getElem?_getD, List.getElem?_eq_getElem hi]
  exact List.getElem_mem hi
variable {S : sp_S} {h : mm_H}
def sp_place (S : sp_S) (p d b : Nat) : Nat := sp_sum (fun k => if sp_el S p d k = true then sp_bfn (sp_e S) b k else 0) (sp_nb S)
theorem sp_place_at (S : sp_S) (p d : Nat) {i : Nat} (hi : i < (sp_ord S p d).length) : sp_place S p d ((sp_ord S p d).getD i 0) = i := by
  unfold sp_place
  rw [← sp_lsum_ordk (e := sp_e S) (c := sp_el S p d)]
  exact sp_lex_at sp_ordk_lex hi
theorem pm_place (H : sm_S S 0 h) (ok : sp_ok S) {p b : Nat} (hb : b < sp_nb S) (hp : p < 2 ^ 31) : gX11_placeOf (nI b) (nI p) h = some (nI (sp_place S p (sp_dy S) b)) := by
  have hdy := ok.1.1
  have he := (ok.2.1 b hb).2.2.1
  have hb20 := pc_b20 ok hb
  refine po_loopF (fun n i s => gX11_placeOf_L5 (nI b) (nI p) h n (nI s) (nI i)) (sp_nb S) (sp_sum (fun k => if sp_el S p (sp_dy S) k = true then sp_bfn (sp_e S) b k else 0)) _ (fun n => ?_) (fun n i hi => ?_) mm_F 0 (Nat.zero_le _) (pc_nbF ok)
  · try dsimp only
    rw [gX11_placeOf_L5, if_pos po_m2, if_neg (pm_nlt H ok)]
    rfl
  · try dsimp only
    have hi9 := (ok.2.1 i hi).2.2.1
    have hi20 := pc_b20 ok hi
    rw [gX11_placeOf_L5, if_pos po_m2, if_pos (pm_lt H ok hi), pm_b H ok (x := 2) (w := 2) rfl hb (by decide), Option.bind_some, pm_b H ok (x := 2) (w := 2) rfl hi (by decide), Option.bind_some, Option.bind_some, if_pos po_m0, pm_dy H, pm_can H ok hi hp (by omega), Option.bind_some]
    simp only [mm_jn, Option.bind_some, nI_1, sp_sum]
    by_cases hc : sp_el S p (sp_dy S) i = true
    · rw [if_pos hc, if_pos hc]
      by_cases h1 : sp_b S i 2 < sp_b S b 2
      · have h2 : sp_bfn (sp_e S) b i = 1 := if_pos (decide_eq_true (Or.inl h1))
        rw [pk_sub (by omega), if_pos (po_0lt (by omega) (by omega)), h2]
      · by_cases h3 : sp_b S i 2 = sp_b S b 2
        · rw [h3, pk_sub (Nat.le_refl _), Nat.sub_self, if_neg (po_n0lt (by omega)), if_pos (show nI 0 = 0 from rfl)]
          by_cases h4 : i < b
          · have h2 : sp_bfn (sp_e S) b i = 1 := if_pos (decide_eq_true (Or.inr ⟨h3, h4⟩))
            rw [if_pos (nI_lt h4 (by omega)), h2]
          · have h2 : sp_bfn (sp_e S) b i = 0 := if_neg (by rw [show sp_bf (sp_e S) i b = false from decide_eq_false (show ¬ (sp_b S i 2 < sp_b S b 2 ∨ (sp_b S i 2 = sp_b S b 2 ∧ i < b)) by omega)]; decide)
            rw [if_neg (nI_nlt (by omega) (by omega)), h2, show (0 : Int32) = nI 0 from rfl, nI_add]
        · have h2 : sp_bfn (sp_e S) b i = 0 := if_neg (by rw [show sp_bf (sp_e S) i b = false from decide_eq_false (show ¬ (sp_b S i 2 < sp_b S b 2 ∨ (sp_b S i 2 = sp_b S b 2 ∧ i < b)) by omega)]; decide)
          have h5 : nI (sp_b S b 2) - nI (sp_b S i 2) < 0 := pk_sneg (by omega) (by omega)
          rw [if_neg (Int32.not_lt.mpr (Int32.le_of_lt h5)), if_neg (fun z => by rw [z] at h5; exact absurd h5 (by decide)), h2, show (0 : Int32) = nI 0 from rfl, nI_add]
    · rw [if_neg hc, if_neg hc, show (0 : Int32) = nI 0 from rfl, nI_add]
/-- what the issue order has at a position -/
def sp_iord (S : sp_S) (p : Nat) (x : Int32) : Int32 := if x < 0 then -1 else if x < nI (sp_ord S p (sp_dy S)).length then nI ((sp_ord S p (sp_dy S)).getD x.toNatClampNeg 0) else -1
theorem pm_iord (H : sm_S S 0 h) (ok : sp_ok S) {p : Nat} (x : Int32) (hp : p < 2 ^ 31) : gX11_issueOrder_L26 (nI p) x h mm_F 0 = some (sp_iord S p x, h) := by
  have hdy := ok.1.1
  have hn20 := ok.1.2.1
  have hlen : (sp_ord S p (sp_dy S)).length ≤ 20 := Nat.le_trans sp_ordk_len ok.1.2.1
  -- who is at a place
  have hwho : ∀ k, k < sp_nb S → sp_el S p (sp_dy S) k = true → ∃ i, i < (sp_ord S p (sp_dy S)).length ∧ (sp_ord S p (sp_dy S)).getD i 0 = k ∧ sp_place S p (sp_dy S) k = i := fun k hk he => by
    obtain ⟨i, h1, h2⟩ := sp_mem_at (show k ∈ sp_ord S p (sp_dy S) from sp_ordk_mem.mpr ⟨hk, he⟩)
    exact ⟨i, h1, h2, by rw [← h2]; exact sp_place_at S p (sp_dy S) h1⟩
  have key : ∀ n i, i ≤ sp_nb S → sp_nb S - i < n → (∀ k, k < i → sp_el S p (sp_dy S) k = true → ¬ nI (sp_place S p (sp_dy S) k) = x) → gX11_issueOrder_L26 (nI p) x h n (nI i) = some (sp_iord S p x, h) := by
    intro n
    induction n with
    | zero => intro i _ h9; omega
    | succ n ih =>
      intro i hi hn hno
      rw [gX11_issueOrder_L26, if_pos po_m2]
      by_cases hlt : i < sp_nb S
      · rw [if_pos (pm_lt H ok hlt), if_pos po_m0, pm_dy H, pm_can H ok hlt hp (by omega), Option.bind_some]
        simp only [mm_jn, Option.bind_some, nI_1]
        by_cases hc : sp_el S p (sp_dy S) i = true
        · rw [if_pos hc, pm_place H ok hlt hp, Option.bind_some]
          by_cases he : nI (sp_place S p (sp_dy S) i) = x
          · rw [if_pos he]
            obtain ⟨j, h1, h2, h3⟩ := hwho i hlt hc
            rw [h3] at he
            refine congrArg (fun z => some (z, h)) ?_
            unfold sp_iord
            rw [← he, if_neg (nI_pos (by omega)), if_pos (nI_lt h1 (by omega)), nI_clamp (by omega), h2]
          · rw [if_neg he]
            refine ih (i + 1) (by omega) (by omega) (fun k hk hek => ?_)
            rcases Nat.lt_or_ge k i with h1 | h1
            · exact hno k h1 hek
            · have : k = i := by omega
              rw [this]
              exact he
        · rw [if_neg hc]
          refine ih (i + 1) (by omega) (by omega) (fun k hk hek => ?_)
          rcases Nat.lt_or_ge k i with h1 | h1
          · exact hno k h1 hek
          · have : k = i := by omega
            rw [this] at hek
            exact absurd hek hc
      · have hin : i = sp_nb S := by omega
        subst hin
        rw [if_neg (pm_nlt H ok)]
        refine congrArg (fun z => some (z, h)) ?_
        unfold sp_iord
        by_cases h0 : x < 0
        · rw [if_pos h0]
        · rw [if_neg h0]
          by_cases h1 : x < nI (sp_ord S p (sp_dy S)).length
          · exfalso
            obtain ⟨j, h2, h3⟩ := nI_of h0
            rw [h3] at h1
            have h4 : j < (sp_ord S p (sp_dy S)).length := (nI_ltI h2 (by omega)).mp h1
            have h5 := sp_ordk_mem.mp (sp_at_mem h4)
            exact hno ((sp_ord S p (sp_dy S)).getD j 0) h5.1 h5.2 (by rw [sp_place_at S p (sp_dy S) h4]; exact h3.symm)
          · rw [if_neg h1]
  exact key mm_F 0 (Nat.zero_le _) (pc_nbF ok) (fun k hk => absurd hk (Nat.not_lt_zero _))
end PPZ

section PPE
/-! batches by ascending expiry day, those of equal days by number -/
def sp_ins (e : Nat → Nat) (x : Nat) : List Nat → List Nat
  | [] => [x]
  | y :: t => if e x < e y then x :: y :: t else y :: sp_ins e x t
def sp_ordk (e : Nat → Nat) (c : Nat → Bool) : Nat → List Nat
  | 0 => []
  | n + 1 => if c n = true then sp_ins e n (sp_ordk e c n) else sp_ordk e c n
def sp_srt (e : Nat → Nat) : List Nat → Prop
  | [] => True
  | y :: t => (∀ z, z ∈ t → e y ≤ e z ∧ z ≠ y) ∧ sp_srt e t
variable {e : Nat → Nat}
theorem sp_ins_cons {x y : Nat} {t : List Nat} : sp_ins e x (y :: t) = if e x < e y then x :: y :: t else y :: sp_ins e x t := rfl
theorem sp_ins_mem {x z : Nat} : ∀ {l : List Nat}, z ∈ sp_ins e x l ↔ z = x ∨ z ∈ l
  | [] => by simp [sp_ins]
  | y :: t => by
    unfold sp_ins
    by_cases h : e x < e y
    · rw [if_pos h]
      simp
    · rw [if_neg h, List.mem_cons, sp_ins_mem (l := t), List.mem_cons]
      constructor
      · rintro (h1 | h1 | h1)
        · exact Or.inr (Or.inl h1)
        · exact Or.inl h1
        · exact Or.inr (Or.inr h1)
      · rintro (h1 | h1 | h1)
        · exact Or.inr (Or.inl h1)
        · exact Or.inl h1
        · exact Or.inr (Or.inr h1)
theorem sp_ins_len {x : Nat} : ∀ {l : List Nat}, (sp_ins e x l).length = l.length + 1
  | [] => rfl
  | y :: t => by
    unfold sp_ins
    by_cases h : e x < e y
    · rw [if_pos h]
      rfl
    · rw [if_neg h, List.length_cons, sp_ins_len (l := t)]
      rfl
theorem sp_ins_srt {x : Nat} : ∀ {l : List Nat}, sp_srt e l → (∀ z, z ∈ l → z ≠ x) → sp_srt e (sp_ins e x l)
  | [], _, _ => ⟨fun z hz => absurd hz List.not_mem_nil, trivial⟩
  | y :: t, hs, hx => by
    unfold sp_ins
    by_cases h : e x < e y
    · rw [if_pos h]
      refine ⟨fun z hz => ?_, hs⟩
      rcases List.mem_cons.mp hz with rfl | hz'
      · exact ⟨by omega, hx _ List.mem_cons_self⟩
      · have := hs.1 z hz'
        exact ⟨by omega, hx z hz⟩
    · rw [if_neg h]
      refine ⟨fun z hz => ?_, sp_ins_srt hs.2 (fun z hz => hx z (List.mem_cons_of_mem _ hz))⟩
      rcases sp_ins_mem.mp hz with rfl | hz'
      · exact ⟨by omega, fun z9 => hx y List.mem_cons_self z9.symm⟩
      · exact hs.1 z hz'
theorem sp_ordk_mem {c : Nat → Bool} {x : Nat} : ∀ {n : Nat}, x ∈ sp_ordk e c n ↔ x < n ∧ c x = true
  | 0 => by simp [sp_ordk]
  | n + 1 => by
    unfold sp_ordk
    by_cases h : c n = true
    · rw [if_pos h, sp_ins_mem, sp_ordk_mem (n := n)]
      constructor
      · rintro (rfl | ⟨h1, h2⟩)
        · exact ⟨Nat.lt_succ_self _, h⟩
        · exact ⟨by omega, h2⟩
      · rintro ⟨h1, h2⟩
        by_cases h3 : x = n
        · exact Or.inl h3
        · exact Or.inr ⟨by omega, h2⟩
    · rw [if_neg h, sp_ordk_mem (n := n)]
      constructor
      · rintro ⟨h1, h2⟩
        exact ⟨by omega, h2⟩
      · rintro ⟨h1, h2⟩
        refine ⟨?_, h2⟩
        have : x ≠ n := fun z => h (z ▸ h2)
        omega
theorem sp_ordk_srt {c : Nat → Bool} : ∀ {n : Nat}, sp_srt e (sp_ordk e c n)
  | 0 => trivial
  | n + 1 => by
    unfold sp_ordk
    by_cases h : c n = true
    · rw [if_pos h]
      exact sp_ins_srt sp_ordk_srt (fun z hz => by have := (sp_ordk_mem.mp hz).1; omega)
    · rw [if_neg h]
      exact sp_ordk_srt
theorem sp_ordk_len {c : Nat → Bool} : ∀ {n : Nat}, (sp_ordk e c n).length ≤ n
  | 0 => Nat.le_refl _
  | n + 1 => by
    unfold sp_ordk
    have h1 := sp_ordk_len (c := c) (n := n)
    by_cases h : c n = true
    · rw [if_pos h, sp_ins_len]
      omega
    · rw [if_neg h]
      omega
theorem sp_ins_eq {e' : Nat → Nat} {x : Nat} : ∀ {l : List Nat}, e x = e' x → (∀ z, z ∈ l → e z = e' z) → sp_ins e x l = sp_ins e' x l
  | [], _, _ => rfl
  | y :: t, hx, hl => by
    unfold sp_ins
    rw [hx, hl y List.mem_cons_self, sp_ins_eq (l := t) hx (fun z hz => hl z (List.mem_cons_of_mem _ hz))]
theorem sp_ordk_eq {e' : Nat → Nat} {c c' : Nat → Bool} : ∀ {n : Nat}, (∀ i, i < n → c i = c' i) → (∀ i, i < n → e i = e' i) → sp_ordk e c n = sp_ordk e' c' n
  | 0, _, _ => rfl
  | n + 1, hc, he => by
    have h1 := sp_ordk_eq (n := n) (fun i hi => hc i (by omega)) (fun i hi => he i (by omega))
    unfold sp_ordk
    rw [← hc n (by omega), ← h1, sp_ins_eq (e' := e') (he n (by omega)) (fun z hz => he z (by have := (sp_ordk_mem.mp hz).1; omega))]
theorem sp_ins_fil {x b : Nat} (hx : x ≠ b) : ∀ {l : List Nat}, sp_srt e l → (sp_ins e x l).filter (fun z => decide (z ≠ b)) = sp_ins e x (l.filter (fun z => decide (z ≠ b)))
  | [], _ => by simp [sp_ins, hx]
  | y :: t, hs => by
    rw [sp_ins_cons]
    by_cases h : e x < e y
    · rw [if_pos h, List.filter_cons, if_pos (by simpa using hx)]
      have key : ∀ l' : List Nat, (∀ z, z ∈ l' → e x < e z) → x :: l' = sp_ins e x l' := by
        intro l' h9
        cases l' with
        | nil => rfl
        | cons z t' =>
          unfold sp_ins
          rw [if_pos (h9 z List.mem_cons_self)]
      refine key _ (fun z hz => ?_)
      rcases List.mem_cons.mp (List.mem_filter.mp hz).1 with rfl | h2
      · exact h
      · have := (hs.1 z h2).1
        omega
    · rw [if_neg h]
      by_cases hy : y = b
      · rw [List.filter_cons, if_neg (by simpa using hy), List.filter_cons, if_neg (by simpa using hy)]
        exact sp_ins_fil hx hs.2
      · rw [List.filter_cons, if_pos (by simpa using hy), List.filter_cons, if_pos (by simpa using hy), sp_ins_fil hx hs.2]
        rw [sp_ins_cons, if_neg h]
theorem sp_ordk_fil {c : Nat → Bool} {b : Nat} : ∀ {n : Nat}, sp_ordk e (fun z => c z && decide (z ≠ b)) n = (sp_ordk e c n).filter (fun z => decide (z ≠ b))
  | 0 => rfl
  | n + 1 => by
    have h1 := sp_ordk_fil (c := c) (b := b) (n := n)
    unfold sp_ordk
    by_cases hc : c n = true
    · by_cases hb : n = b
      · rw [if_neg (by simp [hb]), if_pos hc, h1]
        have h2 : ∀ l : List Nat, (sp_ins e n l).filter (fun z => decide (z ≠ b)) = l.filter (fun z => decide (z ≠ b)) := by
          intro l
          induction l with
          | nil => simp [sp_ins, hb]
          | cons y t ih =>
            unfold sp_ins
            by_cases h : e n < e y
            · rw [if_pos h, List.filter_cons, if_neg (by simpa using hb)]
            · rw [if_neg h, List.filter_cons, List.filter_cons, ih]
        rw [h2]
      · rw [if_pos (by simp [hc, hb]), if_pos hc, h1, sp_ins_fil hb sp_ordk_srt]
    · rw [if_neg (by simp [hc]), if_neg hc, h1]
/-- the head taken out -/
theorem sp_ordk_tail {c c' : Nat → Bool} {b n : Nat} {t : List Nat} (h : sp_ordk e c n = b :: t) (hc : ∀ i, i < n → c' i = (c i && decide (i ≠ b))) : sp_ordk e c' n = t := by
  rw [sp_ordk_eq (e' := e) (c' := fun z => c z && decide (z ≠ b)) hc (fun _ _ => rfl), sp_ordk_fil, h]
  have hs : sp_srt e (b :: t) := h ▸ sp_ordk_srt
  rw [List.filter_cons, if_neg (by simp)]
  exact List.filter_eq_self.mpr (fun z hz => decide_eq_true (hs.1 z hz).2)
/-- the class's way of inserting: from the end -/
theorem sp_ins_cut {x : Nat} : ∀ {l : List Nat} {w : Nat}, w ≤ l.length → (∀ j, j < w → e (l.getD j 0) ≤ e x) → (∀ j, w ≤ j → j < l.length → e x < e (l.getD j 0)) → sp_ins e x l = l.take w ++ x :: l.drop w
  | [], w, h, _, _ => by
    have : w = 0 := by simpa using h
    subst this
    rfl
  | y :: t, 0, _, _, h2 => by
    have h9 : e x < e y := h2 0 (Nat.le_refl _) (by simp)
    rw [sp_ins_cons, if_pos h9]
    rfl
  | y :: t, w + 1, h, h1, h2 => by
    unfold sp_ins
    have h3 : ¬ e x < e y := Nat.not_lt.mpr (h1 0 (Nat.succ_pos _))
    rw [if_neg h3, sp_ins_cut (l := t) (w := w) (by simpa using h) (fun j hj => h1 (j + 1) (by omega)) (fun j hj hj2 => h2 (j + 1) (by omega) (by simpa using hj2))]
    rfl
theorem sp_cut_get {x : Nat} : ∀ {l : List Nat} {w i : Nat}, w ≤ l.length → i ≤ l.length → (l.take w ++ x :: l.drop w).getD i 0 = if i < w then l.getD i 0 else if i = w then x else l.getD (i - 1) 0
  | [], w, i, h, hi => by
    have : w = 0 := by simpa using h
    have : i = 0 := by simpa using hi
    subst w i
    rfl
  | y :: t, 0, 0, _, _ => rfl
  | y :: t, 0, i + 1, _, _ => by
    rw [if_neg (by omega), if_neg (by omega)]
    rfl
  | y :: t, w + 1, 0, _, _ => by
    rw [if_pos (Nat.succ_pos _)]
    rfl
  | y :: t, w + 1, i + 1, h, hi => by
    have h1 := sp_cut_get (x := x) (l := t) (w := w) (i := i) (by simpa using h) (by simpa using hi)
    show (t.take w ++ x :: t.drop w).getD i 0 = _
    rw [h1]
    by_cases h2 : i < w
    · rw [if_pos h2, if_pos (show i + 1 < w + 1 by omega)]
      rfl
    · rw [if_neg h2, if_neg (show ¬ i + 1 < w + 1 by omega)]
      by_cases h3 : i = w
      · rw [if_pos h3, if_pos (show i + 1 = w + 1 by omega)]
      · rw [if_neg h3, if_neg (show ¬ i + 1 = w + 1 by omega)]
        obtain ⟨k, rfl⟩ : ∃ k, i = k + 1 := ⟨i - 1, by omega⟩
        rfl
/-- amounts taken along a list -/
def sp_tk (f : Nat → Nat) : List Nat → Nat → Nat → Nat
  | [], _, _ => 0
  | b :: t, q, x => if x = b then min q (f b) else sp_tk f t (q - min q (f b)) x
/-- their cost -/
def sp_cost (f c : Nat → Nat) : List Nat → Nat → Nat
  | [], _ => 0
  | b :: t, q => min q (f b) * c b + sp_cost f c t (q - min q (f b))
/-- what stays untaken -/
def sp_left (f : Nat → Nat) : List Nat → Nat → Nat
  | [], q => q
  | b :: t, q => sp_left f t (q - min q (f b))
theorem sp_tk_0 {f : Nat → Nat} {x : Nat} : ∀ {l : List Nat}, sp_tk f l 0 x = 0
  | [] => rfl
  | b :: t => by
    unfold sp_tk
    rw [Nat.zero_min, Nat.sub_zero, sp_tk_0 (l := t)]
    split <;> rfl
theorem sp_cost_0 {f c : Nat → Nat} : ∀ {l : List Nat}, sp_cost f c l 0 = 0
  | [] => rfl
  | b :: t => by
    unfold sp_cost
    rw [Nat.zero_min, Nat.sub_zero, sp_cost_0 (l := t), Nat.zero_mul]
theorem sp_left_0 {f : Nat → Nat} : ∀ {l : List Nat}, sp_left f l 0 = 0
  | [] => rfl
  | b :: t => by
    unfold sp_left
    rw [Nat.zero_min, Nat.sub_zero]
    exact sp_left_0 (l := t)
theorem sp_tk_no {f : Nat → Nat} {x : Nat} : ∀ {l : List Nat} {q : Nat}, x ∉ l → sp_tk f l q x = 0
  | [], _, _ => rfl
  | b :: t, q, h => by
    unfold sp_tk
    rw [if_neg (show ¬ x = b from fun z => h (z ▸ List.mem_cons_self))]
    exact sp_tk_no (fun z => h (List.mem_cons_of_mem _ z))
theorem sp_tk_le {f : Nat → Nat} {x : Nat} : ∀ {l : List Nat} {q : Nat}, sp_tk f l q x ≤ f x
  | [], _ => Nat.zero_le _
  | b :: t, q => by
    unfold sp_tk
    by_cases h : x = b
    · rw [if_pos h, h]
      exact Nat.min_le_right _ _
    · rw [if_neg h]
      exact sp_tk_le
theorem sp_tk_eq {f g : Nat → Nat} {x : Nat} : ∀ {l : List Nat} {q : Nat}, (∀ z, z ∈ l → f z = g z) → sp_tk f l q x = sp_tk g l q x
  | [], _, _ => rfl
  | b :: t, q, h => by
    unfold sp_tk
    rw [h b List.mem_cons_self, sp_tk_eq (l := t) (fun z hz => h z (List.mem_cons_of_mem _ hz))]
theorem sp_cost_eq {f g c d : Nat → Nat} : ∀ {l : List Nat} {q : Nat}, (∀ z, z ∈ l → f z = g z ∧ c z = d z) → sp_cost f c l q = sp_cost g d l q
  | [], _, _ => rfl
  | b :: t, q, h => by
    unfold sp_cost
    rw [(h b List.mem_cons_self).1, (h b List.mem_cons_self).2, sp_cost_eq (l := t) (fun z hz => h z (List.mem_cons_of_mem _ hz))]
theorem sp_left_eq {f g : Nat → Nat} : ∀ {l : List Nat} {q : Nat}, (∀ z, z ∈ l → f z = g z) → sp_left f l q = sp_left g l q
  | [], _, _ => rfl
  | b :: t, q, h => by
    unfold sp_left
    rw [h b List.mem_cons_self, sp_left_eq (l := t) (fun z hz => h z (List.mem_cons_of_mem _ hz))]
end PPE

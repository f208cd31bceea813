section PQL
/-! forecasts: what a daily demand takes from a list of batches, with f units free and D days on sale -/
def sp_c1 (d : Nat) (f D : Nat → Nat) (c b : Nat) : Nat := max c (min (c + f b) (d * D b))
/-- taken in all -/
def sp_cum (d : Nat) (f D : Nat → Nat) : List Nat → Nat → Nat
  | [], c => c
  | b :: t, c => sp_cum d f D t (sp_c1 d f D c b)
/-- taken from x while no more than m is asked for in all -/
def sp_sl (d : Nat) (f D : Nat → Nat) (m : Nat) : List Nat → Nat → Nat → Nat
  | [], _, _ => 0
  | b :: t, c, x => if x = b then min m (sp_c1 d f D c b) - min m c else sp_sl d f D m t (sp_c1 d f D c b) x
/-- taken from x in the end -/
def sp_slI (d : Nat) (f D : Nat → Nat) : List Nat → Nat → Nat → Nat
  | [], _, _ => 0
  | b :: t, c, x => if x = b then sp_c1 d f D c b - c else sp_slI d f D t (sp_c1 d f D c b) x
variable {d : Nat} {f D g : Nat → Nat}
theorem sp_c1_ge (c b : Nat) : c ≤ sp_c1 d f D c b := Nat.le_max_left _ _
theorem sp_c1_le (c b : Nat) : sp_c1 d f D c b ≤ c + f b := by
  unfold sp_c1
  omega
/-- one day at one batch -/
theorem sp_day1 {k c b : Nat} (hg : g b = if D b ≤ k then 0 else f b - (min (d * k) (sp_c1 d f D c b) - min (d * k) c)) :
    min (d - (min (d * k + d) c - min (d * k) c)) (g b) = (min (d * k + d) (sp_c1 d f D c b) - min (d * k + d) c) - (min (d * k) (sp_c1 d f D c b) - min (d * k) c) ∧
    d - (min (d * k + d) c - min (d * k) c) - min (d - (min (d * k + d) c - min (d * k) c)) (g b) = d - (min (d * k + d) (sp_c1 d f D c b) - min (d * k) (sp_c1 d f D c b)) := by
  have hc := sp_c1_ge (d := d) (f := f) (D := D) c b
  by_cases h : D b ≤ k
  · have hM : d * D b ≤ d * k := Nat.mul_le_mul_left d h
    rw [if_pos h] at hg
    rw [hg]
    unfold sp_c1 at hc ⊢
    generalize d * D b = M at hM hc ⊢
    generalize d * k = K at hM hc ⊢
    omega
  · have hM : d * (k + 1) ≤ d * D b := Nat.mul_le_mul_left d (by omega)
    rw [Nat.mul_succ] at hM
    rw [if_neg h] at hg
    rw [hg]
    unfold sp_c1 at hc ⊢
    generalize d * D b = M at hM hc ⊢
    generalize d * k = K at hM hc ⊢
    omega
/-- one day along the list -/
theorem sp_day_tk {k : Nat} : ∀ {l : List Nat} {c : Nat}, sp_srt (fun _ => 0) l → (∀ z, z ∈ l → g z = if D z ≤ k then 0 else f z - sp_sl d f D (d * k) l c z) →
    (∀ x, sp_tk g l (d - (min (d * k + d) c - min (d * k) c)) x = sp_sl d f D (d * k + d) l c x - sp_sl d f D (d * k) l c x) ∧ sp_left g l (d - (min (d * k + d) c - min (d * k) c)) = d - (min (d * k + d) (sp_cum d f D l c) - min (d * k) (sp_cum d f D l c))
  | [], c, _, _ => ⟨fun x => rfl, rfl⟩
  | b :: t, c, hs, hg => by
    have hb := hg b List.mem_cons_self
    rw [show sp_sl d f D (d * k) (b :: t) c b = min (d * k) (sp_c1 d f D c b) - min (d * k) c from if_pos rfl] at hb
    obtain ⟨e1, e2⟩ := sp_day1 hb
    obtain ⟨h1, h2⟩ := sp_day_tk (l := t) (c := sp_c1 d f D c b) hs.2 (fun z hz => by
      have := hg z (List.mem_cons_of_mem _ hz)
      rw [show sp_sl d f D (d * k) (b :: t) c z = sp_sl d f D (d * k) t (sp_c1 d f D c b) z from if_neg (hs.1 z hz).2] at this
      exact this)
    refine ⟨fun x => ?_, ?_⟩
    · show (if x = b then min (d - (min (d * k + d) c - min (d * k) c)) (g b) else sp_tk g t (d - (min (d * k + d) c - min (d * k) c) - min (d - (min (d * k + d) c - min (d * k) c)) (g b)) x) = (if x = b then min (d * k + d) (sp_c1 d f D c b) - min (d * k + d) c else sp_sl d f D (d * k + d) t (sp_c1 d f D c b) x) - (if x = b then min (d * k) (sp_c1 d f D c b) - min (d * k) c else sp_sl d f D (d * k) t (sp_c1 d f D c b) x)
      by_cases hx : x = b
      · rw [if_pos hx, if_pos hx, if_pos hx]
        exact e1
      · rw [if_neg hx, if_neg hx, if_neg hx, e2]
        exact h1 x
    · show sp_left g t (d - (min (d * k + d) c - min (d * k) c) - min (d - (min (d * k + d) c - min (d * k) c)) (g b)) = _
      rw [e2]
      exact h2
theorem sp_sl_mono {m m' : Nat} (h : m ≤ m') {x : Nat} : ∀ {l : List Nat} {c : Nat}, sp_sl d f D m l c x ≤ sp_sl d f D m' l c x
  | [], _ => Nat.le_refl _
  | b :: t, c => by
    show (if x = b then min m (sp_c1 d f D c b) - min m c else sp_sl d f D m t (sp_c1 d f D c b) x) ≤ (if x = b then min m' (sp_c1 d f D c b) - min m' c else sp_sl d f D m' t (sp_c1 d f D c b) x)
    have hc := sp_c1_ge (d := d) (f := f) (D := D) c b
    by_cases hx : x = b
    · rw [if_pos hx, if_pos hx]
      omega
    · rw [if_neg hx, if_neg hx]
      exact sp_sl_mono h
theorem sp_sl_le {m x : Nat} : ∀ {l : List Nat} {c : Nat}, sp_sl d f D m l c x ≤ f x
  | [], _ => Nat.zero_le _
  | b :: t, c => by
    show (if x = b then min m (sp_c1 d f D c b) - min m c else sp_sl d f D m t (sp_c1 d f D c b) x) ≤ f x
    have hc := sp_c1_le (d := d) (f := f) (D := D) c b
    have hc2 := sp_c1_ge (d := d) (f := f) (D := D) c b
    by_cases hx : x = b
    · rw [if_pos hx, hx]
      omega
    · rw [if_neg hx]
      exact sp_sl_le
theorem sp_sl_0 {x : Nat} : ∀ {l : List Nat} {c : Nat}, sp_sl d f D 0 l c x = 0
  | [], _ => rfl
  | b :: t, c => by
    show (if x = b then min 0 (sp_c1 d f D c b) - min 0 c else sp_sl d f D 0 t (sp_c1 d f D c b) x) = 0
    by_cases hx : x = b
    · rw [if_pos hx]
      omega
    · rw [if_neg hx]
      exact sp_sl_0
theorem sp_slI_le {x : Nat} : ∀ {l : List Nat} {c : Nat}, sp_slI d f D l c x ≤ f x
  | [], _ => Nat.zero_le _
  | b :: t, c => by
    show (if x = b then sp_c1 d f D c b - c else sp_slI d f D t (sp_c1 d f D c b) x) ≤ f x
    have hc := sp_c1_le (d := d) (f := f) (D := D) c b
    by_cases hx : x = b
    · rw [if_pos hx, hx]
      omega
    · rw [if_neg hx]
      exact sp_slI_le
/-- when its days are over, all is taken from a batch that will be -/
theorem sp_sl_I {k x : Nat} (hx : D x ≤ k) : ∀ {l : List Nat} {c : Nat}, sp_sl d f D (d * k) l c x = sp_slI d f D l c x
  | [], _ => rfl
  | b :: t, c => by
    show (if x = b then min (d * k) (sp_c1 d f D c b) - min (d * k) c else sp_sl d f D (d * k) t (sp_c1 d f D c b) x) = (if x = b then sp_c1 d f D c b - c else sp_slI d f D t (sp_c1 d f D c b) x)
    by_cases hxb : x = b
    · rw [if_pos hxb, if_pos hxb]
      have hM : d * D b ≤ d * k := Nat.mul_le_mul_left d (by rw [← hxb]; exact hx)
      unfold sp_c1
      generalize d * D b = M at hM ⊢
      generalize d * k = K at hM ⊢
      omega
    · rw [if_neg hxb, if_neg hxb]
      exact sp_sl_I hx
/-- batches that give nothing can be left out -/
theorem sp_c1_no {c b : Nat} (h : f b = 0 ∨ D b = 0) : sp_c1 d f D c b = c := by
  unfold sp_c1
  rcases h with h | h
  · rw [h]
    omega
  · rw [h, Nat.mul_zero]
    omega
theorem sp_cum_fil {p : Nat → Bool} : ∀ {l : List Nat} {c : Nat}, (∀ z, z ∈ l → p z = false → f z = 0 ∨ D z = 0) → sp_cum d f D (l.filter p) c = sp_cum d f D l c
  | [], _, _ => rfl
  | b :: t, c, h => by
    cases hp : p b with
    | true =>
      rw [List.filter_cons_of_pos hp]
      exact sp_cum_fil (fun z hz => h z (List.mem_cons_of_mem _ hz))
    | false =>
      rw [List.filter_cons_of_neg (by rw [hp]; decide)]
      show _ = sp_cum d f D t (sp_c1 d f D c b)
      rw [sp_c1_no (h b List.mem_cons_self hp)]
      exact sp_cum_fil (fun z hz => h z (List.mem_cons_of_mem _ hz))
theorem sp_slI_fil {p : Nat → Bool} {x : Nat} (hx : p x = true) : ∀ {l : List Nat} {c : Nat}, (∀ z, z ∈ l → p z = false → f z = 0 ∨ D z = 0) → sp_slI d f D (l.filter p) c x = sp_slI d f D l c x
  | [], _, _ => rfl
  | b :: t, c, h => by
    cases hp : p b with
    | true =>
      rw [List.filter_cons_of_pos hp]
      show (if x = b then sp_c1 d f D c b - c else sp_slI d f D (t.filter p) (sp_c1 d f D c b) x) = (if x = b then sp_c1 d f D c b - c else sp_slI d f D t (sp_c1 d f D c b) x)
      rw [sp_slI_fil hx (fun z hz => h z (List.mem_cons_of_mem _ hz))]
    | false =>
      rw [List.filter_cons_of_neg (by rw [hp]; decide)]
      show _ = (if x = b then sp_c1 d f D c b - c else sp_slI d f D t (sp_c1 d f D c b) x)
      rw [sp_c1_no (h b List.mem_cons_self hp), if_neg (fun z => by rw [z, hp] at hx; cases hx)]
      exact sp_slI_fil hx (fun z hz => h z (List.mem_cons_of_mem _ hz))
theorem sp_tk_fil {p : Nat → Bool} {x : Nat} : ∀ {l : List Nat} {q : Nat}, (∀ z, z ∈ l → p z = false → g z = 0) → sp_tk g (l.filter p) q x = sp_tk g l q x
  | [], _, _ => rfl
  | b :: t, q, h => by
    cases hp : p b with
    | true =>
      rw [List.filter_cons_of_pos hp]
      show (if x = b then min q (g b) else sp_tk g (t.filter p) (q - min q (g b)) x) = (if x = b then min q (g b) else sp_tk g t (q - min q (g b)) x)
      rw [sp_tk_fil (fun z hz => h z (List.mem_cons_of_mem _ hz))]
    | false =>
      have hb := h b List.mem_cons_self hp
      rw [List.filter_cons_of_neg (by rw [hp]; decide)]
      show _ = (if x = b then min q (g b) else sp_tk g t (q - min q (g b)) x)
      rw [hb, Nat.min_zero, Nat.sub_zero, sp_tk_fil (fun z hz => h z (List.mem_cons_of_mem _ hz))]
      by_cases hx : x = b
      · rw [if_pos hx, hx]
        have := sp_tk_le (f := g) (x := b) (l := t) (q := q)
        omega
      · rw [if_neg hx]
theorem sp_lsum_fil {p : Nat → Bool} : ∀ {l : List Nat}, (∀ z, z ∈ l → p z = false → g z = 0) → sp_lsum g (l.filter p) = sp_lsum g l
  | [], _ => rfl
  | b :: t, h => by
    cases hp : p b with
    | true =>
      rw [List.filter_cons_of_pos hp]
      show g b + sp_lsum g (t.filter p) = g b + sp_lsum g t
      rw [sp_lsum_fil (fun z hz => h z (List.mem_cons_of_mem _ hz))]
    | false =>
      rw [List.filter_cons_of_neg (by rw [hp]; decide)]
      show _ = g b + sp_lsum g t
      rw [h b List.mem_cons_self hp, sp_lsum_fil (fun z hz => h z (List.mem_cons_of_mem _ hz)), Nat.zero_add]
theorem sp_lex_fil {e : Nat → Nat} {p : Nat → Bool} : ∀ {l : List Nat}, sp_lex e l → sp_lex e (l.filter p)
  | [], _ => trivial
  | b :: t, h => by
    cases hp : p b with
    | true =>
      rw [List.filter_cons_of_pos hp]
      exact ⟨fun z hz => h.1 z (List.mem_filter.mp hz).1, sp_lex_fil h.2⟩
    | false =>
      rw [List.filter_cons_of_neg (by rw [hp]; decide)]
      exact sp_lex_fil h.2
/-- the order of fewer batches is the order of all, filtered -/
theorem sp_ordk_sub {e : Nat → Nat} {c p : Nat → Bool} {n : Nat} : sp_ordk e (fun z => c z && p z) n = (sp_ordk e c n).filter p :=
  sp_lex_uniq sp_ordk_lex (sp_lex_fil sp_ordk_lex) (fun z => by
    rw [sp_ordk_mem, List.mem_filter, sp_ordk_mem, Bool.and_eq_true_iff, and_assoc])
theorem sp_lex_srt {e : Nat → Nat} : ∀ {l : List Nat}, sp_lex e l → sp_srt (fun _ => 0) l
  | [], _ => trivial
  | b :: t, h => ⟨fun z hz => ⟨Nat.le_refl _, fun w => by
      have := h.1 z hz
      rw [w, sp_bf_self] at this
      cases this⟩, sp_lex_srt h.2⟩
end PQL

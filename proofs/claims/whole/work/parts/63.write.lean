section PQI
/-! the output text -/
theorem sp_lex_uniq {e : Nat → Nat} : ∀ {l m : List Nat}, sp_lex e l → sp_lex e m → (∀ z, z ∈ l ↔ z ∈ m) → l = m
  | [], [], _, _, _ => rfl
  | [], y :: t, _, _, h => absurd ((h y).mpr List.mem_cons_self) (List.not_mem_nil)
  | y :: t, [], _, _, h => absurd ((h y).mp List.mem_cons_self) (List.not_mem_nil)
  | y :: t, x :: s, hl, hm, h => by
    have hyx : y = x := by
      rcases List.mem_cons.mp ((h y).mp List.mem_cons_self) with h1 | h1
      · exact h1
      · rcases List.mem_cons.mp ((h x).mpr List.mem_cons_self) with h2 | h2
        · exact h2.symm
        · have h3 := sp_bf_irr (hm.1 y h1)
          rw [hl.1 x h2] at h3
          cases h3
    subst hyx
    refine congrArg (y :: ·) (sp_lex_uniq hl.2 hm.2 (fun z => ⟨fun hz => ?_, fun hz => ?_⟩))
    · rcases List.mem_cons.mp ((h z).mp (List.mem_cons_of_mem _ hz)) with h1 | h1
      · have := hl.1 z hz
        rw [h1, sp_bf_self] at this
        cases this
      · exact h1
    · rcases List.mem_cons.mp ((h z).mpr (List.mem_cons_of_mem _ hz)) with h1 | h1
      · have := hm.1 z hz
        rw [h1, sp_bf_self] at this
        cases this
      · exact h1
theorem sp_lex_drop {e : Nat → Nat} : ∀ {l : List Nat} {i : Nat}, sp_lex e l → sp_lex e (l.drop i)
  | [], i, _ => by
    rw [List.drop_nil]
    trivial
  | y :: t, 0, h => h
  | y :: t, i + 1, h => sp_lex_drop (l := t) h.2
/-- what stands behind a place -/
theorem sp_lex_beh {e : Nat → Nat} {x : Nat} {t : List Nat} : ∀ {l : List Nat} {i : Nat}, sp_lex e l → l.drop i = x :: t → ∀ z, z ∈ t ↔ z ∈ l ∧ sp_bf e x z = true
  | [], i, _, hd => by
    rw [List.drop_nil] at hd
    cases hd
  | y :: s, 0, h, hd => by
    have h1 : y = x ∧ s = t := by
      rw [List.drop_zero] at hd
      exact ⟨(List.cons.inj hd).1, (List.cons.inj hd).2⟩
    obtain ⟨rfl, rfl⟩ := h1
    intro z
    refine ⟨fun hz => ⟨List.mem_cons_of_mem _ hz, h.1 z hz⟩, fun hz => ?_⟩
    rcases List.mem_cons.mp hz.1 with h2 | h2
    · have := hz.2
      rw [h2, sp_bf_self] at this
      cases this
    · exact h2
  | y :: s, i + 1, h, hd => by
    intro z
    have hd' : s.drop i = x :: t := hd
    have hx : x ∈ s := List.mem_of_mem_drop (by rw [hd']; exact List.mem_cons_self)
    rw [sp_lex_beh h.2 hd' z]
    refine ⟨fun hz => ⟨List.mem_cons_of_mem _ hz.1, hz.2⟩, fun hz => ?_⟩
    rcases List.mem_cons.mp hz.1 with h2 | h2
    · have h3 := sp_bf_irr (h.1 x hx)
      rw [← h2, hz.2] at h3
      cases h3
    · exact ⟨h2, hz.2⟩
def sp_dig (n : Nat) : List Nat := (if 1000 ≤ n then [48 + n / 1000 % 10] else []) ++ ((if 100 ≤ n then [48 + n / 100 % 10] else []) ++ ((if 10 ≤ n then [48 + n / 10 % 10] else []) ++ [48 + n % 10]))
def sp_apps (T : sp_T) : List Nat → sp_T
  | [] => T
  | v :: l => sp_apps (sp_app T v) l
theorem sp_apps_len {T : sp_T} : ∀ {l : List Nat}, (sp_apps T l).1 = T.1 + l.length
  | [] => rfl
  | v :: l => by
    show (sp_apps (sp_app T v) l).1 = T.1 + (l.length + 1)
    rw [sp_apps_len (l := l)]
    show T.1 + 1 + l.length = _
    omega
theorem sp_apps_cat {T : sp_T} : ∀ {l m : List Nat}, sp_apps T (l ++ m) = sp_apps (sp_apps T l) m
  | [], _ => rfl
  | v :: l, m => sp_apps_cat (T := sp_app T v) (l := l)
theorem sp_if1 (a n x : Nat) : (if a ≤ n then [x] else []).length ≤ 1 := by
  split
  · exact Nat.le_refl _
  · exact Nat.zero_le _
theorem sp_dig4 (n : Nat) : (sp_dig n).length ≤ 4 := by
  unfold sp_dig
  rw [List.length_append, List.length_append, List.length_append, List.length_singleton]
  have h1 := sp_if1 1000 n (48 + n / 1000 % 10)
  have h2 := sp_if1 100 n (48 + n / 100 % 10)
  have h3 := sp_if1 10 n (48 + n / 10 % 10)
  omega
theorem sp_dig3 {n : Nat} (h : n ≤ 999) : (sp_dig n).length ≤ 3 := by
  unfold sp_dig
  rw [if_neg (show ¬ 1000 ≤ n by omega), List.nil_append, List.length_append, List.length_append, List.length_singleton]
  have h2 := sp_if1 100 n (48 + n / 100 % 10)
  have h3 := sp_if1 10 n (48 + n / 10 % 10)
  omega
theorem sp_dig1 (n : Nat) : 1 ≤ (sp_dig n).length := by
  unfold sp_dig
  rw [List.length_append, List.length_append, List.length_append]
  show 1 ≤ _ + (_ + (_ + 1))
  omega
theorem sp_app_bb {T : sp_T} (h : ∀ j, T.2 j < 256) {l : List Nat} (hl : ∀ v, v ∈ l → v < 256) : ∀ j, (sp_apps T l).2 j < 256 := by
  induction l generalizing T with
  | nil => exact h
  | cons v l ih => exact ih (sp_app_b h (hl v List.mem_cons_self)) (fun w hw => hl w (List.mem_cons_of_mem _ hw))
theorem sp_dig_b (n : Nat) : ∀ v, v ∈ sp_dig n → v < 256 := by
  intro v hv
  unfold sp_dig at hv
  have hd : ∀ m : Nat, 48 + m % 10 < 256 := fun m => by omega
  rcases List.mem_append.mp hv with h | h
  · split at h
    · rw [List.mem_singleton.mp h]
      exact hd _
    · cases h
  · rcases List.mem_append.mp h with h | h
    · split at h
      · rw [List.mem_singleton.mp h]
        exact hd _
      · cases h
    · rcases List.mem_append.mp h with h | h
      · split at h
        · rw [List.mem_singleton.mp h]
          exact hd _
        · cases h
      · rw [List.mem_singleton.mp h]
        exact hd _
/-- one batch in the text -/
def sp_wb1 (S : sp_S) (T : sp_T) (b : Nat) : sp_T :=
  if sp_b S b 2 < sp_dy S then sp_app (sp_apps (sp_app (sp_apps T (sp_dig (sp_b S b 1))) 64) (sp_dig (sp_b S b 2))) 33 else sp_apps (sp_app (sp_apps T (sp_dig (sp_b S b 1))) 64) (sp_dig (sp_b S b 2))
def sp_spc (T : sp_T) : sp_T := if 0 < T.1 then sp_app T 32 else T
def sp_wb (S : sp_S) : List Nat → sp_T → sp_T
  | [], T => T
  | b :: t, T => sp_wb S t (sp_wb1 S (sp_spc T) b)
theorem sp_wb1_len {S : sp_S} {T : sp_T} {b : Nat} (h : sp_b S b 1 ≤ 999) : T.1 + 3 ≤ (sp_wb1 S T b).1 ∧ (sp_wb1 S T b).1 ≤ T.1 + 9 := by
  have h1 := sp_dig3 h
  have h2 := sp_dig4 (sp_b S b 2)
  have h3 := sp_dig1 (sp_b S b 1)
  have h4 := sp_dig1 (sp_b S b 2)
  have e : (sp_apps (sp_app (sp_apps T (sp_dig (sp_b S b 1))) 64) (sp_dig (sp_b S b 2))).1 = T.1 + (sp_dig (sp_b S b 1)).length + 1 + (sp_dig (sp_b S b 2)).length := by
    rw [sp_apps_len]
    show (sp_apps T (sp_dig (sp_b S b 1))).1 + 1 + _ = _
    rw [sp_apps_len]
  unfold sp_wb1
  by_cases hc : sp_b S b 2 < sp_dy S
  · rw [if_pos hc]
    show T.1 + 3 ≤ (sp_apps (sp_app (sp_apps T (sp_dig (sp_b S b 1))) 64) (sp_dig (sp_b S b 2))).1 + 1 ∧ (sp_apps (sp_app (sp_apps T (sp_dig (sp_b S b 1))) 64) (sp_dig (sp_b S b 2))).1 + 1 ≤ T.1 + 9
    omega
  · rw [if_neg hc]
    omega
theorem sp_wb1_b {S : sp_S} {T : sp_T} (h : ∀ j, T.2 j < 256) (b : Nat) : ∀ j, (sp_wb1 S T b).2 j < 256 := by
  have h1 := sp_app_bb (sp_app_b (sp_app_bb h (sp_dig_b (sp_b S b 1))) (show 64 < 256 by decide)) (sp_dig_b (sp_b S b 2))
  unfold sp_wb1
  by_cases hc : sp_b S b 2 < sp_dy S
  · rw [if_pos hc]
    exact sp_app_b h1 (by decide)
  · rw [if_neg hc]
    exact h1
theorem sp_spc_b {T : sp_T} (h : ∀ j, T.2 j < 256) : ∀ j, (sp_spc T).2 j < 256 := by
  unfold sp_spc
  by_cases hc : 0 < T.1
  · rw [if_pos hc]
    exact sp_app_b h (by decide)
  · rw [if_neg hc]
    exact h
theorem sp_wb_b {S : sp_S} : ∀ {l : List Nat} {T : sp_T}, (∀ j, T.2 j < 256) → ∀ j, (sp_wb S l T).2 j < 256
  | [], _, h => h
  | b :: t, _, h => sp_wb_b (l := t) (sp_wb1_b (sp_spc_b h) b)
theorem sp_spc_len (T : sp_T) : (sp_spc T).1 = if 0 < T.1 then T.1 + 1 else 0 := by
  unfold sp_spc
  by_cases hc : 0 < T.1
  · rw [if_pos hc, if_pos hc]
    rfl
  · rw [if_neg hc, if_neg hc]
    omega
theorem sp_wb_len {S : sp_S} : ∀ {l : List Nat} {T : sp_T} {i : Nat}, (∀ b, b ∈ l → sp_b S b 1 ≤ 999) → T.1 + 1 ≤ 10 * i + (if i = 0 then 1 else 0) → (sp_wb S l T).1 + 1 ≤ 10 * (i + l.length) + (if i + l.length = 0 then 1 else 0)
  | [], _, _, _, h => h
  | b :: t, T, i, hb, h => by
    have h1 := sp_wb1_len (S := S) (T := sp_spc T) (hb b List.mem_cons_self)
    rw [sp_spc_len] at h1
    have := sp_wb_len (S := S) (l := t) (T := sp_wb1 S (sp_spc T) b) (i := i + 1) (fun z hz => hb z (List.mem_cons_of_mem _ hz)) (by
      rw [if_neg (by omega)]
      by_cases h0 : 0 < T.1
      · rw [if_pos h0] at h1
        by_cases hi : i = 0
        · rw [if_pos hi] at h
          omega
        · rw [if_neg hi] at h
          omega
      · rw [if_neg h0] at h1
        omega)
    show (sp_wb S t (sp_wb1 S (sp_spc T) b)).1 + 1 ≤ 10 * (i + (t.length + 1)) + (if i + (t.length + 1) = 0 then 1 else 0)
    rw [if_neg (show ¬ i + 1 + t.length = 0 by omega)] at this
    rw [if_neg (show ¬ i + (t.length + 1) = 0 by omega)]
    omega
variable {T : sp_T} {S : sp_S} {h : mm_H} {A : sp_A}
/-! the class -/
theorem po_dgt {n u : Nat} (hn : n < 2 ^ 31) (h0 : 0 < u) (hu : u < 2 ^ 31) : (48 : Int32) + (nI n / nI u - nI n / nI u / 10 * 10) = nI (48 + n / u % 10) := by
  have h1 : n / u < 2 ^ 31 := Nat.lt_of_le_of_lt (Nat.div_le_self n u) hn
  rw [pk_div hn h0 hu, show (10 : Int32) = nI 10 from rfl, pk_rem h1 (by decide) (by decide), show (48 : Int32) = nI 48 from rfl, nI_add]
theorem po_dgt_b {n u : Nat} : (nI (48 + n / u % 10)).toBitVec.toNat % 256 = 48 + n / u % 10 := by
  rw [pk_tn (by omega)]
  omega
theorem pc_numS {n u m : Nat} {x : Int32} (H : sc_T T 3 h) (hn : n ≤ 9999) (hl : T.1 < 199) (h1 : 1 ≤ u) (hu : u ≤ 1000) (hx : nI u / 10 = x) (hp : u ≤ n ∨ u = 1) : ∃ h', gX8_addNumber_L4 3 (nI n) (m + 1) (nI u) h = gX8_addNumber_L4 3 (nI n) m x h' ∧ sc_T (sp_app T (48 + n / u % 10)) 3 h' ∧ po_fr (po_tx 3) h h' := by
  obtain ⟨a, e1, H1, f1⟩ := pc_addByte (x := nI (48 + n / u % 10)) H po_c3 hl (by decide) po_dgt_b
  refine ⟨a, ?_, H1, f1⟩
  have hput : (if nI u = 0 then none else (gX8_addByte 3 (48 + (nI n / nI u - nI n / nI u / 10 * 10)) h).bind (fun h10 => (some (nI u / 10)).bind (fun x7 => gX8_addNumber_L4 3 (nI n) m x7 h10))) = gX8_addNumber_L4 3 (nI n) m x a := by
    rw [if_neg (nI_ne0 (by omega) (by omega)), po_dgt (by omega) (by omega) (by omega), e1, Option.bind_some, Option.bind_some, hx]
  rw [gX8_addNumber_L4, if_neg (show ¬ nI u < 1 from nI_nlt (b := 1) h1 (by omega))]
  dsimp only [mm_jn]
  by_cases hc : u ≤ n
  · rw [if_neg (nI_nlt hc (by omega))]
    exact hput
  · have hu1 : u = 1 := by omega
    rw [if_pos (nI_lt (by omega) (by omega)), if_pos (show nI u = 1 by rw [hu1]; rfl)]
    exact hput
theorem pc_numK {n u m : Nat} {x : Int32} (h1 : 1 < u) (hu : u ≤ 1000) (hx : nI u / 10 = x) (hp : n < u) : gX8_addNumber_L4 3 (nI n) (m + 1) (nI u) h = gX8_addNumber_L4 3 (nI n) m x h := by
  rw [gX8_addNumber_L4, if_neg (show ¬ nI u < 1 from nI_nlt (b := 1) (by omega) (by omega))]
  dsimp only [mm_jn]
  rw [if_pos (nI_lt hp (by omega)), if_neg (show ¬ nI u = 1 from fun z => by have := (nI_eq (b := 1) (by omega) (by decide)).mp z; omega), Option.bind_some, hx]
theorem pc_addNumber {n : Nat} (H : sc_T T 3 h) (hn : n ≤ 9999) (hl : T.1 + (sp_dig n).length ≤ 199) : ∃ h', gX8_addNumber 3 (nI n) h = some h' ∧ sc_T (sp_apps T (sp_dig n)) 3 h' ∧ po_fr (po_tx 3) h h' := by
  unfold gX8_addNumber
  have step : ∀ (u m : Nat) (x : Int32) (T : sp_T) (h : mm_H), sc_T T 3 h → 1 < u → u ≤ 1000 → nI u / 10 = x → T.1 + (if u ≤ n then [48 + n / u % 10] else []).length ≤ 199 → ∃ h', gX8_addNumber_L4 3 (nI n) (m + 1) (nI u) h = gX8_addNumber_L4 3 (nI n) m x h' ∧ sc_T (sp_apps T (if u ≤ n then [48 + n / u % 10] else [])) 3 h' ∧ po_fr (po_tx 3) h h' := by
    intro u m x T h H h1 hu hx hl
    by_cases hc : u ≤ n
    · rw [if_pos hc] at hl ⊢
      exact pc_numS H hn (by rw [List.length_singleton] at hl; omega) (by omega) hu hx (Or.inl hc)
    · rw [if_neg hc]
      exact ⟨h, pc_numK h1 hu hx (by omega), H, po_fr_refl h⟩
  have hlen := hl
  unfold sp_dig at hlen ⊢
  rw [List.length_append, List.length_append, List.length_append] at hlen
  rw [show mm_F = 99995 + 1 + 1 + 1 + 1 + 1 from rfl, show (1000 : Int32) = nI 1000 from rfl]
  obtain ⟨a, e1, H1, f1⟩ := step 1000 (99995 + 1 + 1 + 1 + 1) (nI 100) T h H (by decide) (by decide) (by decide) (by omega)
  obtain ⟨b, e2, H2, f2⟩ := step 100 (99995 + 1 + 1 + 1) (nI 10) _ a H1 (by decide) (by decide) (by decide) (by rw [sp_apps_len]; omega)
  obtain ⟨c, e3, H3, f3⟩ := step 10 (99995 + 1 + 1) (nI 1) _ b H2 (by decide) (by decide) (by decide) (by rw [sp_apps_len, sp_apps_len]; omega)
  obtain ⟨d, e4, H4, f4⟩ := pc_numS (u := 1) (m := 99995 + 1) (x := 0) H3 hn (by rw [sp_apps_len, sp_apps_len, sp_apps_len]; rw [List.length_singleton] at hlen; omega) (by decide) (by decide) (by decide) (Or.inr rfl)
  rw [e1, e2, e3, e4, gX8_addNumber_L4, if_pos (by decide)]
  refine ⟨d, rfl, ?_, po_fr_trans f1 (po_fr_trans f2 (po_fr_trans f3 f4))⟩
  rw [sp_apps_cat, sp_apps_cat, sp_apps_cat]
  rw [Nat.div_one] at H4
  exact H4
theorem pc_writeBatch {b : Nat} (H : sc_T T 3 h) (HS : sc_S S 21 h) (ok : sp_ok S) (hb : b < sp_nb S) (hl : T.1 + 9 ≤ 199) : ∃ h', gX10_writeBatch (nI b) h = some h' ∧ sc_T (sp_wb1 S T b) 3 h' ∧ po_fr (po_tx 3) h h' := by
  obtain ⟨_, hu, he, _⟩ := ok.2.1 b hb
  have h3 := sp_dig3 hu
  have h4 := sp_dig4 (sp_b S b 2)
  have hS : ∀ {h' : mm_H}, po_fr (po_tx 3) h h' → sc_S S 21 h' := fun {h'} hf => sc_fr HS hf (fun q hq => by
    have hq' : 21 ≤ q ∧ q < 21 + 31 := of_decide_eq_true hq
    exact po_tx_no (Or.inr (by omega)))
  unfold gX10_writeBatch
  rw [show gX4_get 24 (nI b) h = some (nI (sp_b S b 1)) from pc_g3 po_k21 HS ok hb, Option.bind_some]
  obtain ⟨x1, e1, H1, f1⟩ := pc_addNumber H (show sp_b S b 1 ≤ 9999 by omega) (by omega)
  rw [e1, Option.bind_some]
  obtain ⟨x2, e2, H2, f2⟩ := pc_addByte (x := 64) (b := 64) H1 po_c3 (by rw [sp_apps_len]; omega) (by decide) (by decide)
  have f12 := po_fr_trans f1 f2
  rw [e2, Option.bind_some, show gX4_get 28 (nI b) x2 = some (nI (sp_b S b 2)) from pc_g7 po_k21 (hS f12) ok hb, Option.bind_some]
  obtain ⟨x3, e3, H3, f3⟩ := pc_addNumber H2 he (by show (sp_apps T _).1 + 1 + _ ≤ 199; rw [sp_apps_len]; omega)
  have f13 := po_fr_trans f12 f3
  rw [e3, Option.bind_some, pc_hasExp po_k21 (hS f13) ok hb, Option.bind_some]
  unfold sp_wb1
  by_cases hc : sp_b S b 2 < sp_dy S
  · rw [if_pos (decide_eq_true hc), if_pos hc]
    obtain ⟨x4, e4, H4, f4⟩ := pc_addByte (x := 33) (b := 33) H3 po_c3 (by rw [sp_apps_len]; show (sp_apps T _).1 + 1 + _ < 199; rw [sp_apps_len]; omega) (by decide) (by decide)
    rw [e4, Option.bind_some]
    exact ⟨x4, rfl, H4, po_fr_trans f13 f4⟩
  · rw [if_neg (by rw [decide_eq_false hc]; decide), if_neg hc]
    exact ⟨x3, rfl, H3, f13⟩
theorem pc_write_L {l : List Nat} {e : Nat → Nat} (ok : sp_ok S) (hm : ∀ x, x ∈ l → x < sp_nb S) : ∀ (t : List Nat) (n i : Nat) (T : sp_T) (h : mm_H), sc_T T 3 h → sc_ord l e h → sc_S S 21 h → l.drop i = t → i ≤ l.length → i + t.length ≤ 20 → t.length < n → (0 < i ↔ 0 < T.1) → T.1 + 1 ≤ 10 * i + (if i = 0 then 1 else 0) →
    ∃ h', gX10_writeBatches_L27 n (nI i) h = some (.inl (nI (sp_wb S t T).1), h') ∧ sc_T (sp_wb S t T) 3 h' ∧ po_fr (po_tx 3) h h' := by
  intro t
  induction t with
  | nil =>
    intro n i T h H HO HS hd hi h20 hn hp hl
    obtain ⟨n, rfl⟩ : ∃ k, n = k + 1 := ⟨n - 1, by omega⟩
    have h0 := sp_drop0 hd
    rw [gX10_writeBatches_L27, HO.1, if_neg (nI_nlt h0 (by omega)), H.1]
    exact ⟨h, rfl, H, po_fr_refl h⟩
  | cons b t ih =>
    intro n i T h H HO HS hd hi h20 hn hp hl
    obtain ⟨n, rfl⟩ : ∃ k, n = k + 1 := ⟨n - 1, by omega⟩
    obtain ⟨h1, h2, h3⟩ := sp_drop hd
    rw [List.length_cons] at h20 hn
    have hbl : b ∈ l := h2 ▸ sp_at_mem h1
    have hb := hm b hbl
    have hll : l.length ≤ 20 := by
      have := congrArg List.length hd
      rw [List.length_drop, List.length_cons] at this
      omega
    have hT : T.1 + 10 ≤ 199 := by
      by_cases h0 : i = 0
      · rw [if_pos h0] at hl
        omega
      · rw [if_neg h0] at hl
        omega
    have hS : ∀ {h' : mm_H}, po_fr (po_tx 3) h h' → sc_S S 21 h' := fun {h'} hf => sc_fr HS hf (fun q hq => by
      have hq' : 21 ≤ q ∧ q < 21 + 31 := of_decide_eq_true hq
      exact po_tx_no (Or.inr (by omega)))
    have hO : ∀ {h' : mm_H}, po_fr (po_tx 3) h h' → sc_ord l e h' := fun {h'} hf => sc_ord_fr HO hf (po_tx_no (by decide)) (po_tx_no (by decide)) (po_tx_no (by decide))
    rw [gX10_writeBatches_L27, HO.1, if_pos (nI_lt h1 (by omega))]
    -- from the heap with the space on
    have rest : ∀ (T' : sp_T) (h' : mm_H), T' = sp_spc T → sc_T T' 3 h' → po_fr (po_tx 3) h h' → ∃ h2, (gX4_get 348 (nI i) h').bind (fun (x15 : Int32) => (gX10_writeBatch x15 h').bind (fun (h17 : mm_H) => (some (nI i + 1)).bind (fun (x19 : Int32) => gX10_writeBatches_L27 n x19 h17))) = some (.inl (nI (sp_wb S (b :: t) T).1), h2) ∧ sc_T (sp_wb S (b :: t) T) 3 h2 ∧ po_fr (po_tx 3) h h2 := by
      intro T' h' hT' H' f'
      have hsl := sp_spc_len T
      rw [← hT'] at hsl
      have hT9 : T'.1 + 9 ≤ 199 := by
        by_cases h0 : 0 < T.1
        · rw [if_pos h0] at hsl
          omega
        · rw [if_neg h0] at hsl
          omega
      obtain ⟨x1, e1, H1, f1⟩ := pc_writeBatch H' (hS f') ok hb hT9
      have f2 := po_fr_trans f' f1
      have hlen := sp_wb1_len (S := S) (T := T') (ok.2.1 b hb).2.1
      obtain ⟨x2, e2, H2, f3⟩ := ih n (i + 1) (sp_wb1 S T' b) x1 H1 (hO f2) (hS f2) h3 (by omega) (by omega) (by omega) ⟨fun _ => by omega, fun _ => by omega⟩ (by
        rw [if_neg (by omega)]
        by_cases h0 : 0 < T.1
        · rw [if_pos h0] at hsl
          have := hp.mpr h0
          rw [if_neg (show ¬ i = 0 by omega)] at hl
          omega
        · rw [if_neg h0] at hsl
          omega)
      rw [po_g348 (by omega), ((hO f').2 i h1).1, h2, Option.bind_some, e1, Option.bind_some, Option.bind_some, nI_1, e2]
      rw [hT'] at H2 ⊢
      exact ⟨x2, rfl, H2, po_fr_trans f2 f3⟩
    by_cases h0 : 0 < i
    · have h0' := hp.mp h0
      obtain ⟨x0, e0, H0, f0⟩ := pc_addByte (x := 32) (b := 32) H po_c3 (by omega) (by decide) (by decide)
      dsimp only [mm_jn]
      rw [if_pos (po_0lt h0 (by omega)), e0, Option.bind_some]
      exact rest _ x0 (by unfold sp_spc; rw [if_pos h0']) H0 f0
    · dsimp only [mm_jn]
      rw [if_neg (po_n0lt h0)]
      exact rest T h (by unfold sp_spc; rw [if_neg (fun z => h0 (hp.mpr z))]) H (po_fr_refl h)
end PQI

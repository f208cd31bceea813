section PPI
/-! the class takes along BatchOrder -/
theorem sp_drop {l t : List Nat} {b i : Nat} (h : l.drop i = b :: t) : i < l.length ∧ l.getD i 0 = b ∧ l.drop (i + 1) = t := by
  have h1 : i < l.length := by
    rcases Nat.lt_or_ge i l.length with h9 | h9
    · exact h9
    · rw [List.drop_eq_nil_of_le h9] at h
      cases h
  rw [List.drop_eq_getElem_cons h1] at h
  refine ⟨h1, ?_, ?_⟩
  · rw [List.getD_eq_getElem?_getD, List.getElem?_eq_getElem h1]
    exact (List.cons.inj h).1
  · exact (List.cons.inj h).2
theorem sp_drop0 {l : List Nat} {i : Nat} (h : l.drop i = []) : l.length ≤ i := List.drop_eq_nil_iff.mp h
variable {S : sp_S} {o : Nat} {h : mm_H}
theorem sc_ord_fr {l : List Nat} {e : Nat → Nat} {h' : mm_H} {C : Nat → Bool} (H : sc_ord l e h) (hf : po_fr C h h') (h1 : C 347 = false) (h2 : C 349 = false) (h3 : C 351 = false) : sc_ord l e h' :=
  ⟨(hf.1 347 h1 0).trans H.1, fun i hi => ⟨(hf.1 349 h2 i).trans (H.2 i hi).1, (hf.1 351 h3 i).trans (H.2 i hi).2⟩⟩
theorem po_in_od {o : Nat} (ho : o < 317) : po_in o 347 = false ∧ po_in o 349 = false ∧ po_in o 351 = false :=
  ⟨decide_eq_false (by omega), decide_eq_false (by omega), decide_eq_false (by omega)⟩
theorem pc_cost (hk : mm_kd o = (0, 7)) (H : sc_S S o h) (ok : sp_ok S) {l : List Nat} {e : Nat → Nat} (hl : sc_ord l e h) (hm : ∀ x, x ∈ l → x < sp_nb S) (hlen : l.length ≤ 20) {q : Nat} (hq : q < 2 ^ 31) :
    gX7_costOfTaking o (nI q) h = some (nI (sp_cost (sp_free S) (fun b => sp_b S b 3) l q)) := by
  have key : ∀ (t : List Nat) (n i cost left : Nat), l.drop i = t → i ≤ l.length → t.length < n → left < 2 ^ 31 → gX7_costOfTaking_L8 o h n (nI cost) (nI left) (nI i) = some (nI (cost + sp_cost (sp_free S) (fun b => sp_b S b 3) t left)) := by
    intro t
    induction t with
    | nil =>
      intro n i cost left hd hi hn hq
      obtain ⟨n, rfl⟩ : ∃ k, n = k + 1 := ⟨n - 1, by simp at hn; omega⟩
      have h1 := sp_drop0 hd
      rw [gX7_costOfTaking_L8, hl.1, if_neg (nI_nlt (by omega) (by omega))]
      rfl
    | cons b t ih =>
      intro n i cost left hd hi hn hq
      obtain ⟨n, rfl⟩ : ∃ k, n = k + 1 := ⟨n - 1, by omega⟩
      obtain ⟨h1, h2, h3⟩ := sp_drop hd
      rw [gX7_costOfTaking_L8, hl.1, if_pos (nI_lt h1 (by omega))]
      have hb : b < sp_nb S := hm b (by
        rw [← h2, List.getD_eq_getElem?_getD, List.getElem?_eq_getElem h1]
        exact List.getElem_mem h1)
      by_cases hq0 : left = 0
      · subst hq0
        rw [if_neg (po_n0lt (b := 0) (by omega)), sp_cost_0]
        rfl
      · have hfr := sp_free_le ok hb
        rw [if_pos (po_0lt (by omega) hq), po_g348 (by omega), (hl.2 i h1).1, h2]
        simp only [Option.bind_some]
        rw [pc_free hk H ok hb]
        simp only [Option.bind_some]
        rw [pc_g9 hk H ok hb, po_minN hq (by omega)]
        simp only [Option.bind_some, nI_1, pk_mul, nI_add]
        rw [pk_sub (Nat.min_le_left _ _), ih n (i + 1) _ _ h3 (by omega) (by simp at hn; omega) (by omega), Nat.add_assoc]
        rfl
  have h1 := key l mm_F 0 0 q rfl (Nat.zero_le _) (Nat.lt_of_le_of_lt hlen (by decide)) hq
  rw [Nat.zero_add] at h1
  exact h1
theorem sp_take_acw {S : sp_S} {p q x w : Nat} {t : Nat → Nat} (hw : w ≠ 1) : sp_ac (sp_take S p t q) x w = sp_ac S x w := if_neg (fun z => hw z.2)
/-- one batch gives m units -/
theorem pc_take1 (H : sc_S S o h) {b m : Nat} (hb : b < sp_nb S) (hm : m ≤ sp_b S b 1) : sc_S (sp_take S 8 (fun x => if x = b then m else 0) 0) o (ms_I h (o + 4) b (nI (sp_b S b 1) + -nI m)) := by
  refine ⟨⟨?_, ?_, ?_⟩, fun x hx => ?_, fun r hr => ?_, fun p hp => ?_⟩
  · rw [po_I3 (by omega)]; exact H.1.1
  · rw [po_I3 (by omega)]; exact H.1.2.1
  · rw [po_I3 (by omega)]; exact H.1.2.2
  · obtain ⟨h1, h2, h3, h4, h5⟩ := H.2.1 x hx
    refine ⟨?_, ?_, ?_, ?_, ?_⟩
    · rw [po_I3 (by omega)]; exact h1
    · show _ = nI (sp_b S x 1 - (if x = b then m else 0))
      by_cases hc : x = b
      · subst hc
        rw [if_pos rfl, po_I1, ← Int32.sub_eq_add_neg, pk_sub hm]
      · rw [if_neg hc, po_I4 hc, Nat.sub_zero]
        exact h2
    · rw [po_I3 (by omega)]; exact h3
    · rw [po_I3 (by omega)]; exact h4
    · rw [po_I3 (by omega)]; exact h5
  · obtain ⟨h1, h2, h3, h4, h5⟩ := H.2.2.1 r hr
    exact ⟨by rw [po_I3 (by omega)]; exact h1, by rw [po_I3 (by omega)]; exact h2, by rw [po_I3 (by omega)]; exact h3, by rw [po_I3 (by omega)]; exact h4, fun y hy => by rw [po_I3 (by omega)]; exact h5 y hy⟩
  · obtain ⟨h1, h2, h3, h4⟩ := H.2.2.2 p hp
    refine ⟨by rw [po_I3 (by omega), sp_take_acw (by decide)]; exact h1, ?_, by rw [po_I3 (by omega), sp_take_acw (by decide)]; exact h3, by rw [po_I3 (by omega), sp_take_acw (by decide)]; exact h4⟩
    rw [po_I3 (by omega), po_I3 (by omega)]
    show _ = (if p = 8 ∧ 1 = 1 then sp_ac S p 1 + nI 0 else sp_ac S p 1)
    rw [if_neg (by omega)]
    exact h2
/-- the account of issued units -/
theorem pc_note1 (H : sc_S S o h) {p q : Nat} (hp : p < 8) : sc_S (sp_take S p (fun _ => 0) q) o (ms_I h (o + 24) p (mh_I h (o + 24) p + nI q)) := by
  refine ⟨⟨?_, ?_, ?_⟩, fun x hx => ?_, fun r hr => ?_, fun x hx => ?_⟩
  · rw [po_I3 (by omega)]; exact H.1.1
  · rw [po_I3 (by omega)]; exact H.1.2.1
  · rw [po_I3 (by omega)]; exact H.1.2.2
  · obtain ⟨h1, h2, h3, h4, h5⟩ := H.2.1 x hx
    exact ⟨by rw [po_I3 (by omega)]; exact h1, by rw [po_I3 (by omega)]; exact h2, by rw [po_I3 (by omega)]; exact h3, by rw [po_I3 (by omega)]; exact h4, by rw [po_I3 (by omega)]; exact h5⟩
  · obtain ⟨h1, h2, h3, h4, h5⟩ := H.2.2.1 r hr
    exact ⟨by rw [po_I3 (by omega)]; exact h1, by rw [po_I3 (by omega)]; exact h2, by rw [po_I3 (by omega)]; exact h3, by rw [po_I3 (by omega)]; exact h4, fun y hy => by rw [po_I3 (by omega)]; exact h5 y hy⟩
  · obtain ⟨h1, h2, h3, h4⟩ := H.2.2.2 x hx
    refine ⟨by rw [po_I3 (by omega), sp_take_acw (by decide)]; exact h1, ?_, by rw [po_I3 (by omega), sp_take_acw (by decide)]; exact h3, by rw [po_I3 (by omega), sp_take_acw (by decide)]; exact h4⟩
    show _ = (if x = p ∧ 1 = 1 then sp_ac S x 1 + nI q else sp_ac S x 1)
    rw [← h2]
    by_cases hc : x = p
    · subst hc
      rw [if_pos ⟨rfl, rfl⟩, po_I1, po_I3 (by omega), Int32.add_assoc, Int32.add_assoc, Int32.add_comm (nI q)]
    · rw [if_neg (fun z => hc z.1), po_I4 hc, po_I3 (by omega)]
theorem sp_take_p {S : sp_S} {p q : Nat} {t t' : Nat → Nat} : sp_take (sp_take S 8 t 0) p t' q = sp_take (sp_take S p t q) 8 t' 0 := by
  obtain ⟨a, b, c, d, e⟩ := S
  unfold sp_take sp_b sp_ac
  dsimp only
  have h2 : (fun (x w : Nat) => if x = p ∧ w = 1 then (if x = 8 ∧ w = 1 then e x w + nI 0 else e x w) + nI q else if x = 8 ∧ w = 1 then e x w + nI 0 else e x w) = (fun x w => if x = 8 ∧ w = 1 then (if x = p ∧ w = 1 then e x w + nI q else e x w) + nI 0 else if x = p ∧ w = 1 then e x w + nI q else e x w) := by
    funext x w
    have h0 : ∀ z : Int32, z + nI 0 = z := fun z => Int32.add_zero z
    simp only [h0, ite_self]
  rw [h2]
theorem sp_take_8 {S : sp_S} {p q : Nat} {t t' t'' : Nat → Nat} (ht : ∀ x, t x + t' x = t'' x) : sp_take (sp_take S 8 t 0) p t' q = sp_take S p t'' q := by
  obtain ⟨a, b, c, d, e⟩ := S
  unfold sp_take sp_b sp_ac
  dsimp only
  have h0 : ∀ z : Int32, z + nI 0 = z := fun z => Int32.add_zero z
  have h1 : (fun (x v : Nat) => if v = 1 then (if 1 = 1 then b x 1 - t x else b x 1) - t' x else if v = 1 then b x 1 - t x else b x v) = (fun x v => if v = 1 then b x 1 - t'' x else b x v) := by
    funext x v
    have := ht x
    by_cases hv : v = 1
    · rw [if_pos hv, if_pos hv, if_pos rfl]; omega
    · rw [if_neg hv, if_neg hv, if_neg hv]
  have h2 : (fun (x w : Nat) => if x = p ∧ w = 1 then (if x = 8 ∧ w = 1 then e x w + nI 0 else e x w) + nI q else if x = 8 ∧ w = 1 then e x w + nI 0 else e x w) = (fun x w => if x = p ∧ w = 1 then e x w + nI q else e x w) := by
    funext x w
    simp only [h0, ite_self]
  rw [h1, h2]
theorem pc_issue_L (hk : mm_kd o = (0, 7)) {l : List Nat} {e : Nat → Nat} (hlen : l.length ≤ 20) {p q : Nat} {u : Int32} (hp : p < 8) : ∀ (t : List Nat) (n i left : Nat) (S : sp_S) (h : mm_H), sc_S S o h → sp_ok S → sc_ord l e h → (∀ x, x ∈ l → x < sp_nb S) → l.drop i = t → i ≤ l.length → sp_srt (fun _ => 0) t → t.length < n → left < 2 ^ 31 →
    ∃ h', gX7_issueUnits_L24 o (nI p) (nI q) u n (nI left) (nI i) h = some (u, h') ∧ sc_S (sp_take S p (sp_tk (sp_free S) t left) q) o h' ∧ po_fr (po_in o) h h' := by
  have ho := po_kd7 hk
  have fin : ∀ (S : sp_S) (h : mm_H), sc_S S o h → ∃ h', (gX4_add (o + 23) (nI p) (nI q) h).bind (fun h12 => some (u, h12)) = some (u, h') ∧ sc_S (sp_take S p (fun _ => 0) q) o h' ∧ po_fr (po_in o) h h' := by
    intro S h H
    rw [po_add (by rw [(po_cap7 hk).2.2.2.1]; exact hp) (by rw [(po_cap7 hk).2.2.2.1]; decide)]
    exact ⟨_, rfl, pc_note1 H hp, po_fr_I (po_in_f (k := 24) (by decide))⟩
  intro t
  induction t with
  | nil =>
    intro n i left S h H ok hl hm hd hi hs hn hq
    obtain ⟨n, rfl⟩ : ∃ k, n = k + 1 := ⟨n - 1, by simp at hn; omega⟩
    have h1 := sp_drop0 hd
    rw [gX7_issueUnits_L24, mm_jn, hl.1, if_neg (nI_nlt (by omega) (by omega))]
    exact fin S h H
  | cons b t ih =>
    intro n i left S h H ok hl hm hd hi hs hn hq
    obtain ⟨n, rfl⟩ : ∃ k, n = k + 1 := ⟨n - 1, by omega⟩
    obtain ⟨h1, h2, h3⟩ := sp_drop hd
    rw [gX7_issueUnits_L24, mm_jn, hl.1, if_pos (nI_lt h1 (by omega))]
    have hb : b < sp_nb S := hm b (by
      rw [← h2, List.getD_eq_getElem?_getD, List.getElem?_eq_getElem h1]
      exact List.getElem_mem h1)
    by_cases hq0 : left = 0
    · subst hq0
      rw [if_neg (po_n0lt (b := 0) (by omega)), show sp_tk (sp_free S) (b :: t) 0 = fun _ => 0 from funext fun x => sp_tk_0]
      exact fin S h H
    · have hfr := sp_free_le ok hb
      have hb20 := pc_b20 ok hb
      rw [if_pos (po_0lt (by omega) hq), po_g348 (by omega), (hl.2 i h1).1, h2]
      simp only [Option.bind_some]
      rw [pc_free hk H ok hb]
      simp only [Option.bind_some]
      rw [po_minN hq (by omega), po_add (by rw [(po_cap7 hk).1.2.1]; exact hb20) (by rw [(po_cap7 hk).1.2.1]; decide)]
      simp only [Option.bind_some, nI_1]
      rw [pk_sub (Nat.min_le_left _ _)]
      have hms : min left (sp_free S b) ≤ sp_b S b 1 := Nat.le_trans (Nat.min_le_right _ _) (Nat.sub_le _ _)
      have e9 : mh_I h (o + 3 + 1) b = nI (sp_b S b 1) := (H.2.1 b hb).2.1
      have hone := pc_take1 H hb hms
      have hok1 : sp_ok (sp_take S 8 (fun x => if x = b then min left (sp_free S b) else 0) 0) := sp_take_ok ok (fun x hx => by
        by_cases hxb : x = b
        · rw [if_pos hxb, hxb]; exact Nat.min_le_right _ _
        · rw [if_neg hxb]; exact Nat.zero_le _)
      have hf1 : po_fr (po_in o) h (ms_I h (o + 4) b (nI (sp_b S b 1) + -nI (min left (sp_free S b)))) := po_fr_I (po_in_f (k := 4) (by decide))
      obtain ⟨hz1, hz2, hz3⟩ := po_in_od ho
      have hl1 := sc_ord_fr hl hf1 hz1 hz2 hz3
      have hnd : b ∉ t := fun z => (hs.1 b z).2 rfl
      have hzt : ∀ z, z ∈ t → sp_free (sp_take S 8 (fun x => if x = b then min left (sp_free S b) else 0) 0) z = sp_free S z := fun z hz => by
        rw [sp_take_free, if_neg (show ¬ z = b from fun z9 => hnd (z9 ▸ hz)), Nat.sub_zero]
      obtain ⟨h', e1, e2, e3⟩ := ih n (i + 1) (left - min left (sp_free S b)) _ _ hone hok1 hl1 hm h3 (by omega) hs.2 (by simp at hn; omega) (by omega)
      rw [e9]
      refine ⟨h', e1, ?_, po_fr_trans hf1 e3⟩
      rw [sp_take_8 (t'' := sp_tk (sp_free S) (b :: t) left) (fun x => by
          show _ = (if x = b then min left (sp_free S b) else sp_tk (sp_free S) t (left - min left (sp_free S b)) x)
          rw [sp_tk_eq hzt]
          by_cases hxb : x = b
          · rw [if_pos hxb, if_pos hxb, hxb, sp_tk_no hnd, Nat.add_zero]
          · rw [if_neg hxb, if_neg hxb, Nat.zero_add])] at e2
      exact e2
theorem pc_issue (hk : mm_kd o = (0, 7)) (H : sc_S S o h) (ok : sp_ok S) {p q : Nat} (hp : p < 8) (hq : q < 2 ^ 31) :
    ∃ h', gX7_issueUnits o (nI p) (nI q) h = some (nI (sp_cost (sp_free S) (fun b => sp_b S b 3) (sp_ord S p (sp_dy S)) q), h') ∧ sc_S (sp_take S p (sp_tk (sp_free S) (sp_ord S p (sp_dy S)) q) q) o h' ∧ po_fr (fun z => po_od z || po_in o z) h h' := by
  unfold gX7_issueUnits
  rw [H.1.1]
  have hd := ok.1.1
  obtain ⟨h1, e1, o1, f1⟩ := pc_issueOrder hk H ok (p := p) (d := sp_dy S) (by omega) (by omega)
  rw [e1]
  simp only [Option.bind_some]
  have H1 := sc_fr H f1 (po_od_in (po_kd7 hk))
  have hm : ∀ x, x ∈ sp_ord S p (sp_dy S) → x < sp_nb S := fun x hx => (sp_ordk_mem.mp hx).1
  have hlen : (sp_ord S p (sp_dy S)).length ≤ 20 := Nat.le_trans sp_ordk_len ok.1.2.1
  rw [pc_cost hk H1 ok o1 hm hlen hq]
  simp only [Option.bind_some]
  obtain ⟨h', e2, e3, e4⟩ := pc_issue_L hk hlen hp (q := q) (u := nI (sp_cost (sp_free S) (fun b => sp_b S b 3) (sp_ord S p (sp_dy S)) q)) (sp_ord S p (sp_dy S)) mm_F 0 q S h1 H1 ok o1 hm rfl (Nat.zero_le _) (sp_srt_0 sp_ordk_srt) (Nat.lt_of_le_of_lt hlen (by decide)) hq
  exact ⟨h', e2, e3, po_fr_trans (po_fr_mono f1 (fun z hz => (Bool.or_eq_false_iff.mp hz).1)) (po_fr_mono e4 (fun z hz => (Bool.or_eq_false_iff.mp hz).2))⟩
end PPI

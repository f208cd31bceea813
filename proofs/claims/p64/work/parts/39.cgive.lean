section PPJ
/-! the class's reservations take units -/
variable {S : sp_S} {o : Nat} {h : mm_H}
theorem pc_give1 (H : sc_S S o h) (ok : sp_ok S) {r b m : Nat} (hr : r < sp_nr S) (h3 : sp_r S r 3 = 0) (hb : b < sp_nb S) :
    sc_S (sp_give S r (fun x => if x = b then m else 0)) o (ms_I (ms_I h (o + 20) (20 * r + b) (nI (sp_al S r b) + nI m)) (o + 6) b (nI (sp_held S b) + nI m)) := by
  have hb20 := pc_b20 ok hb
  refine ⟨⟨?_, ?_, ?_⟩, fun x hx => ?_, fun x hx => ?_, fun p hp => ?_⟩
  · rw [po_I3 (by omega), po_I3 (by omega)]; exact H.1.1
  · rw [po_I3 (by omega), po_I3 (by omega)]; exact H.1.2.1
  · rw [po_I3 (by omega), po_I3 (by omega)]; exact H.1.2.2
  · obtain ⟨g1, g2, g3, g4, g5⟩ := H.2.1 x hx
    refine ⟨by rw [po_I3 (by omega), po_I3 (by omega)]; exact g1, by rw [po_I3 (by omega), po_I3 (by omega)]; exact g2, ?_, by rw [po_I3 (by omega), po_I3 (by omega)]; exact g4, by rw [po_I3 (by omega), po_I3 (by omega)]; exact g5⟩
    rw [sp_give_held hr h3]
    by_cases hc : x = b
    · subst hc
      rw [if_pos rfl, po_I1, nI_add]
    · rw [if_neg hc, po_I4 hc, po_I3 (by omega), Nat.add_zero]
      exact g3
  · obtain ⟨g1, g2, g3, g4, g5⟩ := H.2.2.1 x hx
    refine ⟨by rw [po_I3 (by omega), po_I3 (by omega)]; exact g1, by rw [po_I3 (by omega), po_I3 (by omega)]; exact g2, by rw [po_I3 (by omega), po_I3 (by omega)]; exact g3, by rw [po_I3 (by omega), po_I3 (by omega)]; exact g4, fun y hy => ?_⟩
    show _ = nI (if x = r then sp_al S x y + (if y = b then m else 0) else sp_al S x y)
    rw [po_I3 (by omega)]
    by_cases hc : x = r ∧ y = b
    · obtain ⟨rfl, rfl⟩ := hc
      rw [if_pos rfl, if_pos rfl, po_I1, nI_add]
    · rw [po_I4 (by omega), g5 y hy]
      by_cases hxr : x = r
      · rw [if_pos hxr, if_neg (fun z => hc ⟨hxr, z⟩), Nat.add_zero]
      · rw [if_neg hxr]
  · obtain ⟨g1, g2, g3, g4⟩ := H.2.2.2 p hp
    exact ⟨by rw [po_I3 (by omega), po_I3 (by omega)]; exact g1, by rw [po_I3 (by omega), po_I3 (by omega), po_I3 (by omega), po_I3 (by omega)]; exact g2, by rw [po_I3 (by omega), po_I3 (by omega)]; exact g3, by rw [po_I3 (by omega), po_I3 (by omega)]; exact g4⟩
theorem pc_refill_L (hk : mm_kd o = (0, 7)) {l : List Nat} {e : Nat → Nat} (hlen : l.length ≤ 20) {r : Nat} {u : Int32} : ∀ (t : List Nat) (n i left : Nat) (S : sp_S) (h : mm_H), sc_S S o h → sp_ok S → sc_ord l e h → (∀ x, x ∈ l → x < sp_nb S) → r < sp_nr S → sp_r S r 3 = 0 → l.drop i = t → i ≤ l.length → sp_srt (fun _ => 0) t → t.length < n → left ≤ sp_r S r 1 - sp_alls S r →
    ∃ h', gX7_refillReservation_L44 o (nI r) u n (nI left) (nI i) h = some (u - nI (sp_left (sp_free S) t left), h') ∧ sc_S (sp_give S r (sp_tk (sp_free S) t left)) o h' ∧ po_fr (po_in o) h h' := by
  have ho := po_kd7 hk
  intro t
  induction t with
  | nil =>
    intro n i left S h H ok hl hm hr h3 hd hi hs hn hq
    obtain ⟨n, rfl⟩ : ∃ k, n = k + 1 := ⟨n - 1, by simp at hn; omega⟩
    have h1 := sp_drop0 hd
    rw [gX7_refillReservation_L44, mm_jn, hl.1, if_neg (nI_nlt (by omega) (by omega))]
    refine ⟨h, rfl, ?_, po_fr_refl h⟩
    show sc_S (sp_give S r (fun _ => 0)) o h
    rw [sp_give_0]
    exact H
  | cons b t ih =>
    intro n i left S h H ok hl hm hr h3 hd hi hs hn hq
    obtain ⟨n, rfl⟩ : ∃ k, n = k + 1 := ⟨n - 1, by omega⟩
    obtain ⟨h1, h2, hd3⟩ := sp_drop hd
    have hr1 := (ok.2.2 r hr).2.1
    rw [gX7_refillReservation_L44, mm_jn, hl.1, if_pos (nI_lt h1 (by omega))]
    have hb : b < sp_nb S := hm b (by
      rw [← h2, List.getD_eq_getElem?_getD, List.getElem?_eq_getElem h1]
      exact List.getElem_mem h1)
    by_cases hq0 : left = 0
    · subst hq0
      rw [if_neg (po_n0lt (b := 0) (by omega)), show sp_tk (sp_free S) (b :: t) 0 = fun _ => 0 from funext fun x => sp_tk_0, sp_left_0, sp_give_0]
      exact ⟨h, rfl, H, po_fr_refl h⟩
    · have hfr := sp_free_le ok hb
      have hb20 := pc_b20 ok hb
      have hr10 := pc_r10 ok hr
      rw [if_pos (po_0lt (by omega) (by omega)), po_g348 (by omega), (hl.2 i h1).1, h2]
      simp only [Option.bind_some]
      rw [pc_free hk H ok hb]
      simp only [Option.bind_some]
      rw [po_minN (by omega) (by omega), pc_ix, po_add (by rw [(po_cap7 hk).2.1.2.2.2.2]; omega) (by rw [(po_cap7 hk).2.1.2.2.2.2]; decide)]
      simp only [Option.bind_some]
      rw [po_add (by rw [(po_cap7 hk).1.2.2.1]; exact hb20) (by rw [(po_cap7 hk).1.2.2.1]; decide)]
      simp only [Option.bind_some, nI_1]
      rw [pk_sub (Nat.min_le_left _ _)]
      generalize hmm : min left (sp_free S b) = m
      have hmq : m ≤ left := hmm ▸ Nat.min_le_left _ _
      have hmf : m ≤ sp_free S b := hmm ▸ Nat.min_le_right _ _
      have e9 : mh_I h (o + 19 + 1) (20 * r + b) = nI (sp_al S r b) := (H.2.2.1 r hr).2.2.2.2 b hb20
      have e8 : mh_I (ms_I h (o + 19 + 1) (20 * r + b) (mh_I h (o + 19 + 1) (20 * r + b) + nI m)) (o + 5 + 1) b = nI (sp_held S b) := by
        rw [po_I3 (by omega)]
        exact (H.2.1 b hb).2.2.1
      rw [e8, e9]
      have hone := pc_give1 (m := m) H ok hr h3 hb
      have hok1 : sp_ok (sp_give S r (fun x => if x = b then m else 0)) := sp_give_ok ok hr h3 (fun x hx => by
        by_cases hxb : x = b
        · rw [if_pos hxb, hxb]; exact hmf
        · rw [if_neg hxb]; exact Nat.zero_le _) (fun x hx => if_neg (by omega)) (by rw [sp_sum_one hb]; omega)
      have hf1 : po_fr (po_in o) h (ms_I (ms_I h (o + 20) (20 * r + b) (nI (sp_al S r b) + nI m)) (o + 6) b (nI (sp_held S b) + nI m)) := po_fr_trans (po_fr_I (po_in_f (k := 20) (by decide))) (po_fr_I (po_in_f (k := 6) (by decide)))
      obtain ⟨hz1, hz2, hz3⟩ := po_in_od ho
      have hl1 := sc_ord_fr hl hf1 hz1 hz2 hz3
      have hnd : b ∉ t := fun z => (hs.1 b z).2 rfl
      have hzt : ∀ z, z ∈ t → sp_free (sp_give S r (fun x => if x = b then m else 0)) z = sp_free S z := fun z hz => by
        rw [sp_give_free hr h3, if_neg (show ¬ z = b from fun z9 => hnd (z9 ▸ hz)), Nat.sub_zero]
      obtain ⟨h', e1, e2, e3⟩ := ih n (i + 1) (left - m) _ _ hone hok1 hl1 hm hr h3 hd3 (by omega) hs.2 (by simp at hn; omega) (by rw [sp_give_alls, sp_sum_one hb]; show left - m ≤ sp_r S r 1 - _; omega)
      have elf : sp_left (sp_free S) (b :: t) left = sp_left (sp_free S) t (left - m) := by
        show sp_left (sp_free S) t (left - min left (sp_free S b)) = _
        rw [hmm]
      refine ⟨h', ?_, ?_, po_fr_trans hf1 e3⟩
      · rw [elf, ← sp_left_eq hzt]
        exact e1
      · rw [sp_give_give (t'' := sp_tk (sp_free S) (b :: t) left) (fun x => by
            show _ = (if x = b then min left (sp_free S b) else sp_tk (sp_free S) t (left - min left (sp_free S b)) x)
            rw [sp_tk_eq hzt, hmm]
            by_cases hxb : x = b
            · rw [if_pos hxb, if_pos hxb, hxb, sp_tk_no hnd, Nat.add_zero]
            · rw [if_neg hxb, if_neg hxb, Nat.zero_add])] at e2
        exact e2
def sp_refill (S : sp_S) (r : Nat) : sp_S := sp_give S r (sp_tk (sp_free S) (sp_ord S (sp_r S r 0) (max (sp_r S r 2) (sp_dy S))) (sp_lack S r))
def sp_filled (S : sp_S) (r : Nat) : Nat := sp_lack S r - sp_left (sp_free S) (sp_ord S (sp_r S r 0) (max (sp_r S r 2) (sp_dy S))) (sp_lack S r)
theorem pc_refill (hk : mm_kd o = (0, 7)) (H : sc_S S o h) (ok : sp_ok S) {r : Nat} (hr : r < sp_nr S) (h3 : sp_r S r 3 = 0) :
    ∃ h', gX7_refillReservation o (nI r) h = some (nI (sp_filled S r), h') ∧ sc_S (sp_refill S r) o h' ∧ po_fr (fun z => po_od z || po_in o z) h h' := by
  unfold gX7_refillReservation
  have hd := ok.1.1
  obtain ⟨hr0, hr1, hr2, -, -, -⟩ := ok.2.2 r hr
  rw [pc_g15 hk H ok hr]
  simp only [Option.bind_some]
  rw [pc_g11 hk H ok hr, H.1.1, po_maxN (by omega) (by omega)]
  simp only [Option.bind_some]
  obtain ⟨h1, e1, o1, f1⟩ := pc_issueOrder hk H ok (p := sp_r S r 0) (d := max (sp_r S r 2) (sp_dy S)) (by omega) (by omega)
  rw [e1]
  simp only [Option.bind_some]
  have H1 := sc_fr H f1 (po_od_in (po_kd7 hk))
  rw [pc_missing hk H1 ok hr]
  simp only [Option.bind_some]
  have hlen : (sp_ord S (sp_r S r 0) (max (sp_r S r 2) (sp_dy S))).length ≤ 20 := Nat.le_trans sp_ordk_len ok.1.2.1
  obtain ⟨h', e2, e3, e4⟩ := pc_refill_L hk hlen (u := nI (sp_lack S r)) _ mm_F 0 (sp_lack S r) S h1 H1 ok o1 (fun x hx => (sp_ordk_mem.mp hx).1) hr h3 rfl (Nat.zero_le _) (sp_srt_0 sp_ordk_srt) (Nat.lt_of_le_of_lt hlen (by decide)) (by unfold sp_lack; rw [if_pos h3]; omega)
  refine ⟨h', ?_, e3, po_fr_trans (po_fr_mono f1 (fun z hz => (Bool.or_eq_false_iff.mp hz).1)) (po_fr_mono e4 (fun z hz => (Bool.or_eq_false_iff.mp hz).2))⟩
  have e5 := e2
  rw [pk_sub sp_left_le] at e5
  exact e5
end PPJ

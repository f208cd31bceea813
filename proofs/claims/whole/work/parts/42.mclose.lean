section PPM
/-! the reference ships, cancels -/
variable {S : sp_S} {h : mm_H}
theorem pm_alls' {r nb : Nat} {f : Nat → Nat} (hr : r < 10) (hn : nb ≤ 20) (h1 : mh_I h 353 2 = nI nb) (hv : ∀ b, b < nb → mh_I h 353 (180 + 24 * r + (4 + b)) = nI (f b)) : gX11_allocated (nI r) h = some (nI (sp_sum f nb)) := by
  refine po_loopF (fun n i s => gX11_allocated_L4 (nI r) h n (nI s) (nI i)) nb (sp_sum f) _ (fun n => ?_) (fun n i hi => ?_) mm_F 0 (Nat.zero_le _) (Nat.lt_of_le_of_lt (Nat.sub_le _ _) (Nat.lt_of_le_of_lt hn (by decide)))
  · rw [gX11_allocated_L4, if_pos po_m2, po_t2, h1, if_neg (nI_nlt (Nat.le_refl _) (by omega))]
  · rw [gX11_allocated_L4, if_pos po_m2, po_t2, h1, if_pos (nI_lt hi (by omega)), pm_ofR (w := 4 + i) (by rw [← nI_add]; rfl) (by omega) (by omega), hv i hi]
    rw [Option.bind_some, Option.bind_some, Option.bind_some, nI_1, nI_add]
    rfl
theorem pm_close (H : sm_S S 0 h) (ok : sp_ok S) {r st : Nat} (hr : r < sp_nr S) : sm_S (sp_close S r st) 0 (ms_I h 353 (180 + 24 * r + 3) (nI st)) := by
  have hr10 := pc_r10 ok hr
  refine ⟨⟨?_, ?_, ?_⟩, fun x hx w hw => ?_, fun x hx => ⟨fun w hw => ?_, fun y hy => ?_⟩, fun x hx w hw => ?_⟩
  · rw [po_I4 (by omega)]; exact H.1.1
  · rw [po_I4 (by omega)]; exact H.1.2.1
  · rw [po_I4 (by omega)]; exact H.1.2.2
  · have hx20 := pc_b20 ok (show x < sp_nb S from hx)
    rw [po_I4 (by omega)]; exact H.2.1 x hx w hw
  · have hx10 := pc_r10 ok (show x < sp_nr S from hx)
    show _ = nI (if x = r ∧ w = 3 then st else sp_r S x w)
    by_cases hc : x = r ∧ w = 3
    · obtain ⟨rfl, rfl⟩ := hc
      rw [if_pos ⟨rfl, rfl⟩, show 420 * 0 + 180 + 24 * x + 3 = 180 + 24 * x + 3 by omega, po_I1]
    · rw [if_neg hc, po_I4 (by omega)]
      exact (H.2.2.1 x hx).1 w hw
  · have hx10 := pc_r10 ok (show x < sp_nr S from hx)
    rw [po_I4 (by omega)]; exact (H.2.2.1 x hx).2 y hy
  · rw [po_I4 (by omega)]; exact H.2.2.2 x hx w hw
theorem pm_cancel (H : sm_S S 0 h) (ok : sp_ok S) {r : Nat} (hr : r < sp_nr S) (h3 : sp_r S r 3 = 0) :
    ∃ h', gX11_cancelIt (nI r) h = some (nI (sp_alls S r), h') ∧ sm_S (sp_close S r 2) 0 h' ∧ po_fx h h' := by
  unfold gX11_cancelIt
  have hr10 := pc_r10 ok hr
  have H1 := pm_close (st := 2) H ok hr
  rw [pm_setR (x := 3) (w := 3) (v := 2) rfl (by omega) (by decide), Option.bind_some]
  have ok1 := sp_close_ok ok (st := 2) hr h3 (by decide) (by decide)
  have e1 := pm_alls H1 ok1 (r := r) hr
  have e2 : gX11_allocated (nI r) (ms_I h 353 (180 + 24 * r + 3) 2) = some (nI (sp_alls S r)) := e1
  rw [e2, Option.bind_some]
  exact ⟨_, rfl, H1, po_fx_I (po_kp (by first | omega | decide))⟩
theorem pm_ship_L {r nb : Nat} {f g c : Nat → Nat} (hr : r < 10) (hn : nb ≤ 20) (h1 : mh_I h 353 2 = nI nb) (hv : ∀ b, b < nb → mh_I h 353 (180 + 24 * r + (4 + b)) = nI (f b)) (hg : ∀ b, b < nb → mh_I h 353 (100 + 4 * b + 1) = nI (g b) ∧ f b ≤ g b) (hc : ∀ b, b < nb → mh_I h 353 (100 + 4 * b + 3) = nI (c b)) :
    ∃ h', gX11_shipIt_L4 (nI r) mm_F 0 0 h = (gX11_ofReservation (nI r) 0 h').bind (fun (x7 : Int32) => (gX11_allocated (nI r) h').bind (fun (x9 : Int32) => (gX11_note x7 9 x9 h').bind (fun (h11 : mm_H) => (gX11_setReservation (nI r) 3 1 h11).bind (fun (h13 : mm_H) => some (nI (sp_sum (fun b => f b * c b) nb), h13))))) ∧
      (∀ b, b < nb → mh_I h' 353 (100 + 4 * b + 1) = nI (g b - f b)) ∧ (∀ j, (∀ b, b < nb → j ≠ 100 + 4 * b + 1) → mh_I h' 353 j = mh_I h 353 j) ∧ po_fx h h' := by
  have key : ∀ n i h2, i ≤ nb → nb - i < n → (∀ b, b < nb → mh_I h2 353 (100 + 4 * b + 1) = nI (if b < i then g b - f b else g b)) → (∀ j, (∀ b, b < nb → j ≠ 100 + 4 * b + 1) → mh_I h2 353 j = mh_I h 353 j) → po_fx h h2 →
      ∃ h', gX11_shipIt_L4 (nI r) n (nI (sp_sum (fun b => f b * c b) i)) (nI i) h2 = (gX11_ofReservation (nI r) 0 h').bind (fun (x7 : Int32) => (gX11_allocated (nI r) h').bind (fun (x9 : Int32) => (gX11_note x7 9 x9 h').bind (fun (h11 : mm_H) => (gX11_setReservation (nI r) 3 1 h11).bind (fun (h13 : mm_H) => some (nI (sp_sum (fun b => f b * c b) nb), h13))))) ∧
        (∀ b, b < nb → mh_I h' 353 (100 + 4 * b + 1) = nI (g b - f b)) ∧ (∀ j, (∀ b, b < nb → j ≠ 100 + 4 * b + 1) → mh_I h' 353 j = mh_I h 353 j) ∧ po_fx h h' := by
    intro n
    induction n with
    | zero => intro i h2 _ h9; omega
    | succ n ih =>
      intro i h2 hi hnn hI hk hf
      have e1 : mh_I h2 353 2 = nI nb := (hk 2 (fun b _ => by omega)).trans h1
      rw [gX11_shipIt_L4, if_pos po_m2, po_t2, e1]
      by_cases hlt : i < nb
      · rw [if_pos (nI_lt hlt (by omega)), pm_ofR (w := 4 + i) (by rw [← nI_add]; rfl) (by omega) (by omega), Option.bind_some, pm_ofB (x := 1) (w := 1) rfl (by omega) (by decide), Option.bind_some, pm_setB (x := 1) (w := 1) rfl (by omega) (by decide), Option.bind_some, pm_ofB (x := 3) (w := 3) rfl (by omega) (by decide), Option.bind_some, Option.bind_some, Option.bind_some]
        have e2 : mh_I h2 353 (180 + 24 * r + (4 + i)) = nI (f i) := (hk _ (fun b _ => by omega)).trans (hv i hlt)
        have e3 : mh_I h2 353 (100 + 4 * i + 1) = nI (g i) := by rw [hI i hlt, if_neg (Nat.lt_irrefl _)]
        rw [po_I4 (by omega), e2, e3, (hk _ (fun b _ => by omega)).trans (hc i hlt), pk_mul, nI_add, nI_1, pk_sub (hg i hlt).2]
        refine ih (i + 1) _ (by omega) (by omega) (fun b hb => ?_) (fun j hj => ?_) (po_fx_trans hf (po_fx_I (po_kp (by first | omega | decide))))
        · by_cases hbi : b = i
          · subst hbi
            rw [po_I1, if_pos (Nat.lt_succ_self _)]
          · rw [po_I4 (by omega), hI b hb]
            by_cases hl : b < i
            · rw [if_pos hl, if_pos (by omega)]
            · rw [if_neg hl, if_neg (by omega)]
        · rw [po_I4 (hj i hlt)]
          exact hk j hj
      · have hin : i = nb := by omega
        subst hin
        rw [if_neg (nI_nlt (Nat.le_refl _) (by omega))]
        exact ⟨h2, rfl, fun b hb => by rw [hI b hb, if_pos hb], hk, hf⟩
  exact key mm_F 0 h (Nat.zero_le _) (Nat.lt_of_le_of_lt (Nat.sub_le _ _) (Nat.lt_of_le_of_lt hn (by decide))) (fun b hb => by rw [if_neg (Nat.not_lt_zero _)]; exact (hg b hb).1) (fun j _ => rfl) (po_fx_refl h)
theorem pm_ship (H : sm_S S 0 h) (ok : sp_ok S) {r : Nat} (hr : r < sp_nr S) (h3 : sp_r S r 3 = 0) :
    ∃ h', gX11_shipIt (nI r) h = some (nI (sp_shipCost S r), h') ∧ sm_S (sp_ship S r) 0 h' ∧ po_fx h h' := by
  unfold gX11_shipIt
  have hr10 := pc_r10 ok hr
  have hn20 := ok.1.2.1
  have hr0 := (ok.2.2 r hr).1
  have hle : ∀ b, b < sp_nb S → sp_al S r b ≤ sp_b S b 1 := fun b hb => Nat.le_trans (sp_al_held hr h3) (sp_held_le ok hb)
  obtain ⟨h1, e1, e2, e3, e4⟩ := pm_ship_L (f := fun b => sp_al S r b) (g := fun b => sp_b S b 1) (c := fun b => sp_b S b 3) hr10 ok.1.2.1 H.1.2.1 (fun b hb => pm_zA H hr (pc_b20 ok hb)) (fun b hb => ⟨pm_zB H hb (by decide), hle b hb⟩) (fun b hb => pm_zB H hb (by decide))
  have g0 : gX11_ofReservation (nI r) 0 h1 = some (nI (sp_r S r 0)) := by
    rw [pm_ofR (x := 0) (w := 0) rfl (by omega) (by decide), e3 _ (fun b hb => by omega), pm_zR H hr (by decide)]
  have ga : gX11_allocated (nI r) h1 = some (nI (sp_alls S r)) := pm_alls' hr10 ok.1.2.1 ((e3 2 (fun b _ => by omega)).trans H.1.2.1) (fun b hb => (e3 _ (fun b _ => by omega)).trans (pm_zA H hr (pc_b20 ok hb)))
  rw [e1, g0, Option.bind_some, ga, Option.bind_some, pm_note (x := 9) (w := 9) rfl (by omega) (by decide), Option.bind_some, pm_setR (x := 3) (w := 3) (v := 1) rfl (by omega) (by decide), Option.bind_some]
  have k1 : ∀ j, (∀ b, b < sp_nb S → j ≠ 100 + 4 * b + 1) → mh_I h1 353 j = mh_I h 353 j := e3
  refine ⟨_, rfl, ⟨⟨?_, ?_, ?_⟩, fun x hx w hw => ?_, fun x hx => ⟨fun w hw => ?_, fun y hy => ?_⟩, fun x hx w hw => ?_⟩, po_fx_trans e4 (po_fx_trans (po_fx_I (po_kp (by first | omega | decide))) (po_fx_I (po_kp (by first | omega | decide))))⟩
  · rw [po_I4 (by omega), po_I4 (by omega), k1 _ (fun b _ => by omega)]; exact H.1.1
  · rw [po_I4 (by omega), po_I4 (by omega), k1 _ (fun b _ => by omega)]; exact H.1.2.1
  · rw [po_I4 (by omega), po_I4 (by omega), k1 _ (fun b _ => by omega)]; exact H.1.2.2
  · have hx20 := pc_b20 ok (show x < sp_nb S from hx)
    rw [po_I4 (by omega), po_I4 (by omega)]
    show _ = nI (if w = 1 then sp_b S x 1 - sp_al S r x else sp_b S x w)
    by_cases hw1 : w = 1
    · subst hw1
      rw [if_pos rfl, show 420 * 0 + 100 + 4 * x + 1 = 100 + 4 * x + 1 by omega]
      exact e2 x hx
    · rw [if_neg hw1, k1 _ (fun b _ => by omega)]
      exact H.2.1 x hx w hw
  · have hx10 := pc_r10 ok (show x < sp_nr S from hx)
    show _ = nI (if x = r ∧ w = 3 then 1 else sp_r S x w)
    by_cases hc : x = r ∧ w = 3
    · obtain ⟨rfl, rfl⟩ := hc
      rw [if_pos ⟨rfl, rfl⟩, show 420 * 0 + 180 + 24 * x + 3 = 180 + 24 * x + 3 by omega, po_I1]
      rfl
    · rw [if_neg hc, po_I4 (by omega), po_I4 (by omega), k1 _ (fun b hb => by omega)]
      exact (H.2.2.1 x hx).1 w hw
  · have hx10 := pc_r10 ok (show x < sp_nr S from hx)
    rw [po_I4 (by omega), po_I4 (by omega), k1 _ (fun b hb => by omega)]; exact (H.2.2.1 x hx).2 y hy
  · rw [po_I4 (by omega)]
    show _ = (if x = sp_r S r 0 ∧ w = 1 then sp_ac S x w + nI (sp_alls S r) else sp_ac S x w)
    by_cases hc : x = sp_r S r 0 ∧ w = 1
    · obtain ⟨h8, rfl⟩ := hc
      subst h8
      rw [if_pos ⟨rfl, rfl⟩, show 420 * 0 + 12 + 12 * sp_r S r 0 + 1 = 4 + 12 * sp_r S r 0 + 9 by omega, po_I1, k1 _ (fun b hb => by omega)]
      have := H.2.2.2 (sp_r S r 0) hx 1 hw
      rw [show 420 * 0 + 12 + 12 * sp_r S r 0 + 1 = 4 + 12 * sp_r S r 0 + 9 by omega] at this
      rw [this]
    · rw [if_neg hc, po_I4 (by omega), k1 _ (fun b hb => by omega)]
      exact H.2.2.2 x hx w hw
end PPM

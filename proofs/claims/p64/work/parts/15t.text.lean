section MMX
/-! Tokens.text, the one reference that changes -/
variable {τ : Type} {G : mm_H → Prop} {M : mm_M} {pc pc' : Nat} {L : List (Option Value)} {st : List Value} {h : mm_H} {o : Option τ} {lf : τ → mm_O}
theorem mm_R0_t (q t : Nat) : mm_up (mm_R0 q) 6 0 (some t) = mm_R0 t := by
  funext p j
  by_cases hc : p = 6 ∧ j = 0
  · obtain ⟨rfl, rfl⟩ := hc
    simp [mm_up]
    rfl
  · unfold mm_up
    rw [if_neg hc]
    unfold mm_R0
    split
    · rw [if_neg hc, if_neg hc]
    · rfl
    · rfl
theorem mm_Sq_t {q : mm_q} {t : Nat} (hs : mm_Sq q h) : mm_Sq (q.1, t, q.2.2) (ms_R h 6 0 (some t)) := by
  refine ⟨hs.1, hs.2.1, fun p hp j hj t' ht' => ?_, hs.2.2.2.1, fun p hp => ?_⟩
  · show mm_up (mh_R h) 6 0 (some t) p j = some t'
    have e1 : mm_up (mm_R0 q.2.1) 6 0 (some t) p j = some t' := by rw [mm_R0_t]; exact ht'
    unfold mm_up at e1 ⊢
    by_cases hc : p = 6 ∧ j = 0
    · rw [if_pos hc] at e1 ⊢
      exact e1
    · rw [if_neg hc] at e1 ⊢
      exact hs.2.2.1 p hp j hj t' e1
  · rw [← hs.2.2.2.2 p hp]
    funext j
    exact if_neg (fun z => by omega)
theorem me_putT {q : mm_q} {t idx : Nat} (d : decode (my_b M) pc = .ok (.putfield idx, 3)) (hp : pc + 3 = pc') (hf : mm_fk (my_y M).cls idx 9 0) (ht : t < mm_NN) (K : mm_E2 (mm_Sq (q.1, t, q.2.2)) G M pc' L st (ms_R h 6 0 (some t)) o lf) : mm_E2 (mm_Sq q) G M pc L (.ref t :: .ref 6 :: st) h o lf := by
  subst hp
  refine mm_liftH (st' := st) (h' := ms_R h 6 0 (some t)) mm_Sq_t rfl rfl (fun X hF hP => mm_Pr_R (mm_ltq kd_6 (by decide) hF) hP) (fun X p l e R s m args below meth c H locs ls cells slots Q hC hP hS hL hF kk => ?_) K
  obtain ⟨hl, hx, hb, hr, hml, hown, hlk, hts, hE, hte, hin0, hRf, hRl⟩ := hC
  obtain ⟨C, T, N, hc, hN, hin, hkN, hw⟩ := hf
  have ho : 6 < mh_n h := mm_ltq kd_6 (by decide) hF
  cases hc
  show W p l e R s m args below meth c H locs cells slots Q (F0 m pc ls (.ref (mx_ad X t) :: .ref (mx_ad X 6) :: st.map (mx_cv X)))
  rw [mx_ad_lt (o := 6) (Nat.lt_of_lt_of_le ho hP.2.1)]
  have he : (mm_ws X h)[6]? = some (mx_base X + 6, .inr (9, mm_fs X h 6 9)) := by rw [mm_ws_get ho, mm_cell_o (mm_ks kd_6 (F := fun _ => True) (by decide) trivial)]
  have hset : (mm_ws X h).set 6 (mx_base X + 6, .inr (9, (mm_fs X h 6 9).set 0 (.ref (mx_ad X t)))) = mm_ws X (ms_R h 6 0 (some t)) := by
    have hfs : (mm_fs X h 6 9).set 0 (.ref (mx_ad X t)) = mm_fs X (ms_R h 6 0 (some t)) 6 9 := by
      refine mm_fs_set ?_ (fun j _ => rfl) (fun j hj => if_neg (fun z => hj z.2))
      show va_rf ((mm_up (mh_R h) 6 0 (some t) 6 0).map (mx_ad X)) = _
      rw [mm_up_row]
      rfl
    rw [hfs, ← mm_cell_o (X := X) (h := ms_R h 6 0 (some t)) (mm_ks kd_6 (F := fun _ => True) (by decide) trivial)]
    exact mm_ws_set ho rfl (fun p hp => mm_ne_R p hp)
  rcases hw with hw | ⟨host, hw⟩
  · exact va_put (ty := .object "BatchWarehouse$Text") hx hb hts hin tyX9 tyX9_ok nmX9 hown hE.2.2.1 hP.1 (mm_wsD X h) hS 6 he rfl 0 hkN (hts _ hw) (fun _ h9 => h9) rfl (by decide +kernel) rfl rfl (by rw [mm_fs_len, hN]; exact hkN) d (fun H1 locs1 hP1 _ hS1 => kk H1 locs1 (hset ▸ hP1) hS1)
  · exact va_putN (ty := .object "BatchWarehouse$Text") hx hb hts hin tyX9 tyX9_ok nmX9 hown hE.2.2.1 hP.1 (mm_wsD X h) hS 6 he rfl 0 hkN (va_Nw.use rfl (hE.2.2.2.2.2.2.1 _ hw rfl)) (fun _ h9 => h9) rfl (by decide +kernel) rfl rfl (by rw [mm_fs_len, hN]; exact hkN) d (fun H1 locs1 hP1 _ hS1 => kk H1 locs1 (hset ▸ hP1) hS1)
end MMX

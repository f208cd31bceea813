section MMO
/-! the constructors (gen25.py) -/
theorem mm_chk_352 {h : mm_H} (hc : mm_chk 352 7 h = true) : mm_Sq (352, 7, mh_D h, mh_R h) h := by
  obtain ⟨c1, c2⟩ := Bool.and_eq_true_iff.mp hc
  refine ⟨⟨Nat.le_refl 352, show 352 ≤ mm_NN by decide⟩, of_decide_eq_true c1, fun o ho k hk t9 ht => ?_, rfl, fun _ _ => rfl⟩
  have c3 := List.all_eq_true.mp (List.all_eq_true.mp c2 o (List.mem_range.mpr ho)) k (List.mem_range.mpr hk)
  have ht' : mm_R0 7 o k = some t9 := ht
  rw [ht'] at c3
  exact eq_of_beq c3
section
variable {τ : Type} {F G F' : mm_H → Prop} {M : mm_M} {pc pc' : Nat} {L : List (Option Value)} {st : List Value} {h : mm_H} {o : Option τ} {lf : τ → mm_O}
theorem me_newS {ci idx N q0 : Nat} (d : decode (my_b M) pc = .ok (.new idx, 3)) (hp : pc + 3 = pc') (hf : mm_nk (my_y M).cls idx ci) (hN : mm_Nl.getD ci 0 = N) (hq : mh_n h = q0) (hk : mm_kd q0 = (0, ci)) (hFK : F h → mh_c h = mh_n h) (hF' : F h → F' (ms_N h N)) (K : mm_E2 F' G M pc' L (.ref q0 :: st) (ms_N h N) o lf) : mm_E2 F G M pc L st h o lf := by
  subst hq
  exact me_new d hp hf hN hk hFK hF' K
theorem me_putTK {q' idx : Nat} (d : decode (my_b M) pc = .ok (.putfield idx, 3)) (hp : pc + 3 = pc') (hf : mm_fk (my_y M).cls idx 9 0) (hn : F h → 6 < mh_n h) (hF' : F h → F' (ms_R h 6 0 (some q'))) (K : mm_E2 F' G M pc' L st (ms_R h 6 0 (some q')) o lf) : mm_E2 F G M pc L (.ref q' :: .ref 6 :: st) h o lf := by
  subst hp
  refine mm_liftH (st' := st) (h' := ms_R h 6 0 (some q')) hF' rfl rfl (fun X hF hP => mm_Pr_R (hn hF) hP) (fun X p l e R s m args below meth c H locs ls cells slots Q hC hP hS hL hF kk => ?_) K
  obtain ⟨hl, hx, hb, hr, hml, hown, hlk, hts, hE, hte, hin0, hRf, hRl⟩ := hC
  obtain ⟨C, T, N, hc, hN, hin, hkN, hw⟩ := hf
  have ho : 6 < mh_n h := hn hF
  cases hc
  show W p l e R s m args below meth c H locs cells slots Q (F0 m pc ls (.ref (mx_ad X q') :: .ref (mx_ad X 6) :: st.map (mx_cv X)))
  rw [mx_ad_lt (o := 6) (Nat.lt_of_lt_of_le ho hP.2.1)]
  have he : (mm_ws X h)[6]? = some (mx_base X + 6, .inr (9, mm_fs X h 6 9)) := by rw [mm_ws_get ho, mm_cell_o (mm_ks kd_6 (F := fun _ => True) (by decide) trivial)]
  have hset : (mm_ws X h).set 6 (mx_base X + 6, .inr (9, (mm_fs X h 6 9).set 0 (.ref (mx_ad X q')))) = mm_ws X (ms_R h 6 0 (some q')) := by
    have hfs : (mm_fs X h 6 9).set 0 (.ref (mx_ad X q')) = mm_fs X (ms_R h 6 0 (some q')) 6 9 := by
      refine mm_fs_set ?_ (fun j _ => rfl) (fun j hj => if_neg (fun z => hj z.2))
      show va_rf ((mm_up (mh_R h) 6 0 (some q') 6 0).map (mx_ad X)) = _
      rw [mm_up_row]
      rfl
    rw [hfs, ← mm_cell_o (X := X) (h := ms_R h 6 0 (some q')) (mm_ks kd_6 (F := fun _ => True) (by decide) trivial)]
    exact mm_ws_set ho rfl (fun p hp => mm_ne_R p hp)
  rcases hw with hw | ⟨host, hw⟩
  · exact va_put (ty := .object "BatchWarehouse$Text") hx hb hts hin tyX9 tyX9_ok nmX9 hown hE.2.2.1 hP.1 (mm_wsD X h) hS 6 he rfl 0 hkN (hts _ hw) (fun _ h9 => h9) rfl (by decide +kernel) rfl rfl (by rw [mm_fs_len, hN]; exact hkN) d (fun H1 locs1 hP1 _ hS1 => kk H1 locs1 (hset ▸ hP1) hS1)
  · exact va_putN (ty := .object "BatchWarehouse$Text") hx hb hts hin tyX9 tyX9_ok nmX9 hown hE.2.2.1 hP.1 (mm_wsD X h) hS 6 he rfl 0 hkN (va_Nw.use rfl (hE.2.2.2.2.2.2.1 _ hw rfl)) (fun _ h9 => h9) rfl (by decide +kernel) rfl rfl (by rw [mm_fs_len, hN]; exact hkN) d (fun H1 locs1 hP1 _ hS1 => kk H1 locs1 (hset ▸ hP1) hS1)
end
theorem foX4_13 : mm_fk1 RX4 13 4 0 := ⟨RX4, TX4, 1, rfl, rfl, inRX4, by decide, (mm_gw_of (List.mem_of_getElem? (i := 145) (by decide +kernel)) rfl)⟩
theorem pfX4_0 : ∀ C T N, mm_cl[4]? = some (C, T, N) → (T 0).2.2.2 = true ∧ (T 0).1 = RX4 ∧ (∃ ty, parseFieldDescriptor (T 0).2.2.1 = some ty ∧ ∀ a, narrow ty (.ref a) = .ref a ∧ fits ty (.ref a) = true) ∧ (∃ ty0 : Nat → FieldType, ∀ k, k < N → parseFieldDescriptor (T k).2.2.1 = some (ty0 k)) ∧ ∀ a, a < N → ∀ b, b < N → a ≠ b → (T a).2.1 ≠ (T b).2.1 := by
  intro C T N h
  cases h
  exact ⟨rfl, rfl, ⟨tyX4 0, by decide +kernel, fun a => ⟨rfl, rfl⟩⟩, ⟨tyX4, tyX4_ok⟩, nmX4⟩
theorem nkX0_9 : mm_nk RX0 9 4 := ⟨RX4, TX4, 1, tyX4, rfl, rfl, inRX4, tyX4_ok, by decide +kernel, (mm_gw_of (List.mem_of_getElem? (i := 298) (by decide +kernel)) rfl), (mm_gw_of (List.mem_of_getElem? (i := 139) (by decide +kernel)) rfl), (mm_gw_of (List.mem_of_getElem? (i := 36) (by decide +kernel)) rfl)⟩
theorem foX0_14 : mm_fk1 RX0 14 0 1 := ⟨RX0, TX0, 3, rfl, rfl, inRX0, by decide, (mm_gw_of (List.mem_of_getElem? (i := 302) (by decide +kernel)) rfl)⟩
theorem pfX0_1 : ∀ C T N, mm_cl[0]? = some (C, T, N) → (T 1).2.2.2 = true ∧ (T 1).1 = RX0 ∧ (∃ ty, parseFieldDescriptor (T 1).2.2.1 = some ty ∧ ∀ a, narrow ty (.ref a) = .ref a ∧ fits ty (.ref a) = true) ∧ (∃ ty0 : Nat → FieldType, ∀ k, k < N → parseFieldDescriptor (T k).2.2.1 = some (ty0 k)) ∧ ∀ a, a < N → ∀ b, b < N → a ≠ b → (T a).2.1 ≠ (T b).2.1 := by
  intro C T N h
  cases h
  exact ⟨rfl, rfl, ⟨tyX0 1, by decide +kernel, fun a => ⟨rfl, rfl⟩⟩, ⟨tyX0, tyX0_ok⟩, nmX0⟩
theorem foX0_20 : mm_fk1 RX0 20 0 2 := ⟨RX0, TX0, 3, rfl, rfl, inRX0, by decide, (mm_gw_of (List.mem_of_getElem? (i := 304) (by decide +kernel)) rfl)⟩
theorem pfX0_2 : ∀ C T N, mm_cl[0]? = some (C, T, N) → (T 2).2.2.2 = true ∧ (T 2).1 = RX0 ∧ (∃ ty, parseFieldDescriptor (T 2).2.2.1 = some ty ∧ ∀ a, narrow ty (.ref a) = .ref a ∧ fits ty (.ref a) = true) ∧ (∃ ty0 : Nat → FieldType, ∀ k, k < N → parseFieldDescriptor (T k).2.2.1 = some (ty0 k)) ∧ ∀ a, a < N → ∀ b, b < N → a ≠ b → (T a).2.1 ≠ (T b).2.1 := by
  intro C T N h
  cases h
  exact ⟨rfl, rfl, ⟨tyX0 2, by decide +kernel, fun a => ⟨rfl, rfl⟩⟩, ⟨tyX0, tyX0_ok⟩, nmX0⟩
theorem nkX1_9 : mm_nk RX1 9 4 := ⟨RX4, TX4, 1, tyX4, rfl, rfl, inRX4, tyX4_ok, by decide +kernel, (mm_gw_of (List.mem_of_getElem? (i := 167) (by decide +kernel)) rfl), (mm_gw_of (List.mem_of_getElem? (i := 139) (by decide +kernel)) rfl), (mm_gw_of (List.mem_of_getElem? (i := 36) (by decide +kernel)) rfl)⟩
theorem foX1_14 : mm_fk1 RX1 14 1 1 := ⟨RX1, TX1, 4, rfl, rfl, inRX1, by decide, (mm_gw_of (List.mem_of_getElem? (i := 171) (by decide +kernel)) rfl)⟩
theorem pfX1_1 : ∀ C T N, mm_cl[1]? = some (C, T, N) → (T 1).2.2.2 = true ∧ (T 1).1 = RX1 ∧ (∃ ty, parseFieldDescriptor (T 1).2.2.1 = some ty ∧ ∀ a, narrow ty (.ref a) = .ref a ∧ fits ty (.ref a) = true) ∧ (∃ ty0 : Nat → FieldType, ∀ k, k < N → parseFieldDescriptor (T k).2.2.1 = some (ty0 k)) ∧ ∀ a, a < N → ∀ b, b < N → a ≠ b → (T a).2.1 ≠ (T b).2.1 := by
  intro C T N h
  cases h
  exact ⟨rfl, rfl, ⟨tyX1 1, by decide +kernel, fun a => ⟨rfl, rfl⟩⟩, ⟨tyX1, tyX1_ok⟩, nmX1⟩
theorem foX1_20 : mm_fk1 RX1 20 1 2 := ⟨RX1, TX1, 4, rfl, rfl, inRX1, by decide, (mm_gw_of (List.mem_of_getElem? (i := 172) (by decide +kernel)) rfl)⟩
theorem pfX1_2 : ∀ C T N, mm_cl[1]? = some (C, T, N) → (T 2).2.2.2 = true ∧ (T 2).1 = RX1 ∧ (∃ ty, parseFieldDescriptor (T 2).2.2.1 = some ty ∧ ∀ a, narrow ty (.ref a) = .ref a ∧ fits ty (.ref a) = true) ∧ (∃ ty0 : Nat → FieldType, ∀ k, k < N → parseFieldDescriptor (T k).2.2.1 = some (ty0 k)) ∧ ∀ a, a < N → ∀ b, b < N → a ≠ b → (T a).2.1 ≠ (T b).2.1 := by
  intro C T N h
  cases h
  exact ⟨rfl, rfl, ⟨tyX1 2, by decide +kernel, fun a => ⟨rfl, rfl⟩⟩, ⟨tyX1, tyX1_ok⟩, nmX1⟩
theorem foX1_23 : mm_fk1 RX1 23 1 3 := ⟨RX1, TX1, 4, rfl, rfl, inRX1, by decide, (mm_gw_of (List.mem_of_getElem? (i := 173) (by decide +kernel)) rfl)⟩
theorem pfX1_3 : ∀ C T N, mm_cl[1]? = some (C, T, N) → (T 3).2.2.2 = true ∧ (T 3).1 = RX1 ∧ (∃ ty, parseFieldDescriptor (T 3).2.2.1 = some ty ∧ ∀ a, narrow ty (.ref a) = .ref a ∧ fits ty (.ref a) = true) ∧ (∃ ty0 : Nat → FieldType, ∀ k, k < N → parseFieldDescriptor (T k).2.2.1 = some (ty0 k)) ∧ ∀ a, a < N → ∀ b, b < N → a ≠ b → (T a).2.1 ≠ (T b).2.1 := by
  intro C T N h
  cases h
  exact ⟨rfl, rfl, ⟨tyX1 3, by decide +kernel, fun a => ⟨rfl, rfl⟩⟩, ⟨tyX1, tyX1_ok⟩, nmX1⟩
theorem nkX7_9 : mm_nk RX7 9 4 := ⟨RX4, TX4, 1, tyX4, rfl, rfl, inRX4, tyX4_ok, by decide +kernel, (mm_gw_of (List.mem_of_getElem? (i := 189) (by decide +kernel)) rfl), (mm_gw_of (List.mem_of_getElem? (i := 139) (by decide +kernel)) rfl), (mm_gw_of (List.mem_of_getElem? (i := 36) (by decide +kernel)) rfl)⟩
theorem foX7_14 : mm_fk1 RX7 14 7 2 := ⟨RX7, TX7, 18, rfl, rfl, inRX7, by decide, (mm_gw_of (List.mem_of_getElem? (i := 195) (by decide +kernel)) rfl)⟩
theorem pfX7_2 : ∀ C T N, mm_cl[7]? = some (C, T, N) → (T 2).2.2.2 = true ∧ (T 2).1 = RX7 ∧ (∃ ty, parseFieldDescriptor (T 2).2.2.1 = some ty ∧ ∀ a, narrow ty (.ref a) = .ref a ∧ fits ty (.ref a) = true) ∧ (∃ ty0 : Nat → FieldType, ∀ k, k < N → parseFieldDescriptor (T k).2.2.1 = some (ty0 k)) ∧ ∀ a, a < N → ∀ b, b < N → a ≠ b → (T a).2.1 ≠ (T b).2.1 := by
  intro C T N h
  cases h
  exact ⟨rfl, rfl, ⟨tyX7 2, by decide +kernel, fun a => ⟨rfl, rfl⟩⟩, ⟨tyX7, tyX7_ok⟩, nmX7⟩
theorem foX7_20 : mm_fk1 RX7 20 7 3 := ⟨RX7, TX7, 18, rfl, rfl, inRX7, by decide, (mm_gw_of (List.mem_of_getElem? (i := 197) (by decide +kernel)) rfl)⟩
theorem pfX7_3 : ∀ C T N, mm_cl[7]? = some (C, T, N) → (T 3).2.2.2 = true ∧ (T 3).1 = RX7 ∧ (∃ ty, parseFieldDescriptor (T 3).2.2.1 = some ty ∧ ∀ a, narrow ty (.ref a) = .ref a ∧ fits ty (.ref a) = true) ∧ (∃ ty0 : Nat → FieldType, ∀ k, k < N → parseFieldDescriptor (T k).2.2.1 = some (ty0 k)) ∧ ∀ a, a < N → ∀ b, b < N → a ≠ b → (T a).2.1 ≠ (T b).2.1 := by
  intro C T N h
  cases h
  exact ⟨rfl, rfl, ⟨tyX7 3, by decide +kernel, fun a => ⟨rfl, rfl⟩⟩, ⟨tyX7, tyX7_ok⟩, nmX7⟩
theorem foX7_23 : mm_fk1 RX7 23 7 4 := ⟨RX7, TX7, 18, rfl, rfl, inRX7, by decide, (mm_gw_of (List.mem_of_getElem? (i := 199) (by decide +kernel)) rfl)⟩
theorem pfX7_4 : ∀ C T N, mm_cl[7]? = some (C, T, N) → (T 4).2.2.2 = true ∧ (T 4).1 = RX7 ∧ (∃ ty, parseFieldDescriptor (T 4).2.2.1 = some ty ∧ ∀ a, narrow ty (.ref a) = .ref a ∧ fits ty (.ref a) = true) ∧ (∃ ty0 : Nat → FieldType, ∀ k, k < N → parseFieldDescriptor (T k).2.2.1 = some (ty0 k)) ∧ ∀ a, a < N → ∀ b, b < N → a ≠ b → (T a).2.1 ≠ (T b).2.1 := by
  intro C T N h
  cases h
  exact ⟨rfl, rfl, ⟨tyX7 4, by decide +kernel, fun a => ⟨rfl, rfl⟩⟩, ⟨tyX7, tyX7_ok⟩, nmX7⟩
theorem foX7_26 : mm_fk1 RX7 26 7 5 := ⟨RX7, TX7, 18, rfl, rfl, inRX7, by decide, (mm_gw_of (List.mem_of_getElem? (i := 201) (by decide +kernel)) rfl)⟩
theorem pfX7_5 : ∀ C T N, mm_cl[7]? = some (C, T, N) → (T 5).2.2.2 = true ∧ (T 5).1 = RX7 ∧ (∃ ty, parseFieldDescriptor (T 5).2.2.1 = some ty ∧ ∀ a, narrow ty (.ref a) = .ref a ∧ fits ty (.ref a) = true) ∧ (∃ ty0 : Nat → FieldType, ∀ k, k < N → parseFieldDescriptor (T k).2.2.1 = some (ty0 k)) ∧ ∀ a, a < N → ∀ b, b < N → a ≠ b → (T a).2.1 ≠ (T b).2.1 := by
  intro C T N h
  cases h
  exact ⟨rfl, rfl, ⟨tyX7 5, by decide +kernel, fun a => ⟨rfl, rfl⟩⟩, ⟨tyX7, tyX7_ok⟩, nmX7⟩
theorem foX7_29 : mm_fk1 RX7 29 7 6 := ⟨RX7, TX7, 18, rfl, rfl, inRX7, by decide, (mm_gw_of (List.mem_of_getElem? (i := 203) (by decide +kernel)) rfl)⟩
theorem pfX7_6 : ∀ C T N, mm_cl[7]? = some (C, T, N) → (T 6).2.2.2 = true ∧ (T 6).1 = RX7 ∧ (∃ ty, parseFieldDescriptor (T 6).2.2.1 = some ty ∧ ∀ a, narrow ty (.ref a) = .ref a ∧ fits ty (.ref a) = true) ∧ (∃ ty0 : Nat → FieldType, ∀ k, k < N → parseFieldDescriptor (T k).2.2.1 = some (ty0 k)) ∧ ∀ a, a < N → ∀ b, b < N → a ≠ b → (T a).2.1 ≠ (T b).2.1 := by
  intro C T N h
  cases h
  exact ⟨rfl, rfl, ⟨tyX7 6, by decide +kernel, fun a => ⟨rfl, rfl⟩⟩, ⟨tyX7, tyX7_ok⟩, nmX7⟩
theorem foX7_32 : mm_fk1 RX7 32 7 8 := ⟨RX7, TX7, 18, rfl, rfl, inRX7, by decide, (mm_gw_of (List.mem_of_getElem? (i := 207) (by decide +kernel)) rfl)⟩
theorem pfX7_8 : ∀ C T N, mm_cl[7]? = some (C, T, N) → (T 8).2.2.2 = true ∧ (T 8).1 = RX7 ∧ (∃ ty, parseFieldDescriptor (T 8).2.2.1 = some ty ∧ ∀ a, narrow ty (.ref a) = .ref a ∧ fits ty (.ref a) = true) ∧ (∃ ty0 : Nat → FieldType, ∀ k, k < N → parseFieldDescriptor (T k).2.2.1 = some (ty0 k)) ∧ ∀ a, a < N → ∀ b, b < N → a ≠ b → (T a).2.1 ≠ (T b).2.1 := by
  intro C T N h
  cases h
  exact ⟨rfl, rfl, ⟨tyX7 8, by decide +kernel, fun a => ⟨rfl, rfl⟩⟩, ⟨tyX7, tyX7_ok⟩, nmX7⟩
theorem foX7_35 : mm_fk1 RX7 35 7 9 := ⟨RX7, TX7, 18, rfl, rfl, inRX7, by decide, (mm_gw_of (List.mem_of_getElem? (i := 208) (by decide +kernel)) rfl)⟩
theorem pfX7_9 : ∀ C T N, mm_cl[7]? = some (C, T, N) → (T 9).2.2.2 = true ∧ (T 9).1 = RX7 ∧ (∃ ty, parseFieldDescriptor (T 9).2.2.1 = some ty ∧ ∀ a, narrow ty (.ref a) = .ref a ∧ fits ty (.ref a) = true) ∧ (∃ ty0 : Nat → FieldType, ∀ k, k < N → parseFieldDescriptor (T k).2.2.1 = some (ty0 k)) ∧ ∀ a, a < N → ∀ b, b < N → a ≠ b → (T a).2.1 ≠ (T b).2.1 := by
  intro C T N h
  cases h
  exact ⟨rfl, rfl, ⟨tyX7 9, by decide +kernel, fun a => ⟨rfl, rfl⟩⟩, ⟨tyX7, tyX7_ok⟩, nmX7⟩
theorem foX7_38 : mm_fk1 RX7 38 7 10 := ⟨RX7, TX7, 18, rfl, rfl, inRX7, by decide, (mm_gw_of (List.mem_of_getElem? (i := 210) (by decide +kernel)) rfl)⟩
theorem pfX7_10 : ∀ C T N, mm_cl[7]? = some (C, T, N) → (T 10).2.2.2 = true ∧ (T 10).1 = RX7 ∧ (∃ ty, parseFieldDescriptor (T 10).2.2.1 = some ty ∧ ∀ a, narrow ty (.ref a) = .ref a ∧ fits ty (.ref a) = true) ∧ (∃ ty0 : Nat → FieldType, ∀ k, k < N → parseFieldDescriptor (T k).2.2.1 = some (ty0 k)) ∧ ∀ a, a < N → ∀ b, b < N → a ≠ b → (T a).2.1 ≠ (T b).2.1 := by
  intro C T N h
  cases h
  exact ⟨rfl, rfl, ⟨tyX7 10, by decide +kernel, fun a => ⟨rfl, rfl⟩⟩, ⟨tyX7, tyX7_ok⟩, nmX7⟩
theorem foX7_41 : mm_fk1 RX7 41 7 11 := ⟨RX7, TX7, 18, rfl, rfl, inRX7, by decide, (mm_gw_of (List.mem_of_getElem? (i := 211) (by decide +kernel)) rfl)⟩
theorem pfX7_11 : ∀ C T N, mm_cl[7]? = some (C, T, N) → (T 11).2.2.2 = true ∧ (T 11).1 = RX7 ∧ (∃ ty, parseFieldDescriptor (T 11).2.2.1 = some ty ∧ ∀ a, narrow ty (.ref a) = .ref a ∧ fits ty (.ref a) = true) ∧ (∃ ty0 : Nat → FieldType, ∀ k, k < N → parseFieldDescriptor (T k).2.2.1 = some (ty0 k)) ∧ ∀ a, a < N → ∀ b, b < N → a ≠ b → (T a).2.1 ≠ (T b).2.1 := by
  intro C T N h
  cases h
  exact ⟨rfl, rfl, ⟨tyX7 11, by decide +kernel, fun a => ⟨rfl, rfl⟩⟩, ⟨tyX7, tyX7_ok⟩, nmX7⟩
theorem foX7_44 : mm_fk1 RX7 44 7 12 := ⟨RX7, TX7, 18, rfl, rfl, inRX7, by decide, (mm_gw_of (List.mem_of_getElem? (i := 212) (by decide +kernel)) rfl)⟩
theorem pfX7_12 : ∀ C T N, mm_cl[7]? = some (C, T, N) → (T 12).2.2.2 = true ∧ (T 12).1 = RX7 ∧ (∃ ty, parseFieldDescriptor (T 12).2.2.1 = some ty ∧ ∀ a, narrow ty (.ref a) = .ref a ∧ fits ty (.ref a) = true) ∧ (∃ ty0 : Nat → FieldType, ∀ k, k < N → parseFieldDescriptor (T k).2.2.1 = some (ty0 k)) ∧ ∀ a, a < N → ∀ b, b < N → a ≠ b → (T a).2.1 ≠ (T b).2.1 := by
  intro C T N h
  cases h
  exact ⟨rfl, rfl, ⟨tyX7 12, by decide +kernel, fun a => ⟨rfl, rfl⟩⟩, ⟨tyX7, tyX7_ok⟩, nmX7⟩
theorem foX7_47 : mm_fk1 RX7 47 7 13 := ⟨RX7, TX7, 18, rfl, rfl, inRX7, by decide, (mm_gw_of (List.mem_of_getElem? (i := 213) (by decide +kernel)) rfl)⟩
theorem pfX7_13 : ∀ C T N, mm_cl[7]? = some (C, T, N) → (T 13).2.2.2 = true ∧ (T 13).1 = RX7 ∧ (∃ ty, parseFieldDescriptor (T 13).2.2.1 = some ty ∧ ∀ a, narrow ty (.ref a) = .ref a ∧ fits ty (.ref a) = true) ∧ (∃ ty0 : Nat → FieldType, ∀ k, k < N → parseFieldDescriptor (T k).2.2.1 = some (ty0 k)) ∧ ∀ a, a < N → ∀ b, b < N → a ≠ b → (T a).2.1 ≠ (T b).2.1 := by
  intro C T N h
  cases h
  exact ⟨rfl, rfl, ⟨tyX7 13, by decide +kernel, fun a => ⟨rfl, rfl⟩⟩, ⟨tyX7, tyX7_ok⟩, nmX7⟩
theorem foX7_50 : mm_fk1 RX7 50 7 14 := ⟨RX7, TX7, 18, rfl, rfl, inRX7, by decide, (mm_gw_of (List.mem_of_getElem? (i := 214) (by decide +kernel)) rfl)⟩
theorem pfX7_14 : ∀ C T N, mm_cl[7]? = some (C, T, N) → (T 14).2.2.2 = true ∧ (T 14).1 = RX7 ∧ (∃ ty, parseFieldDescriptor (T 14).2.2.1 = some ty ∧ ∀ a, narrow ty (.ref a) = .ref a ∧ fits ty (.ref a) = true) ∧ (∃ ty0 : Nat → FieldType, ∀ k, k < N → parseFieldDescriptor (T k).2.2.1 = some (ty0 k)) ∧ ∀ a, a < N → ∀ b, b < N → a ≠ b → (T a).2.1 ≠ (T b).2.1 := by
  intro C T N h
  cases h
  exact ⟨rfl, rfl, ⟨tyX7 14, by decide +kernel, fun a => ⟨rfl, rfl⟩⟩, ⟨tyX7, tyX7_ok⟩, nmX7⟩
theorem foX7_53 : mm_fk1 RX7 53 7 15 := ⟨RX7, TX7, 18, rfl, rfl, inRX7, by decide, (mm_gw_of (List.mem_of_getElem? (i := 215) (by decide +kernel)) rfl)⟩
theorem pfX7_15 : ∀ C T N, mm_cl[7]? = some (C, T, N) → (T 15).2.2.2 = true ∧ (T 15).1 = RX7 ∧ (∃ ty, parseFieldDescriptor (T 15).2.2.1 = some ty ∧ ∀ a, narrow ty (.ref a) = .ref a ∧ fits ty (.ref a) = true) ∧ (∃ ty0 : Nat → FieldType, ∀ k, k < N → parseFieldDescriptor (T k).2.2.1 = some (ty0 k)) ∧ ∀ a, a < N → ∀ b, b < N → a ≠ b → (T a).2.1 ≠ (T b).2.1 := by
  intro C T N h
  cases h
  exact ⟨rfl, rfl, ⟨tyX7 15, by decide +kernel, fun a => ⟨rfl, rfl⟩⟩, ⟨tyX7, tyX7_ok⟩, nmX7⟩
theorem foX7_56 : mm_fk1 RX7 56 7 16 := ⟨RX7, TX7, 18, rfl, rfl, inRX7, by decide, (mm_gw_of (List.mem_of_getElem? (i := 216) (by decide +kernel)) rfl)⟩
theorem pfX7_16 : ∀ C T N, mm_cl[7]? = some (C, T, N) → (T 16).2.2.2 = true ∧ (T 16).1 = RX7 ∧ (∃ ty, parseFieldDescriptor (T 16).2.2.1 = some ty ∧ ∀ a, narrow ty (.ref a) = .ref a ∧ fits ty (.ref a) = true) ∧ (∃ ty0 : Nat → FieldType, ∀ k, k < N → parseFieldDescriptor (T k).2.2.1 = some (ty0 k)) ∧ ∀ a, a < N → ∀ b, b < N → a ≠ b → (T a).2.1 ≠ (T b).2.1 := by
  intro C T N h
  cases h
  exact ⟨rfl, rfl, ⟨tyX7 16, by decide +kernel, fun a => ⟨rfl, rfl⟩⟩, ⟨tyX7, tyX7_ok⟩, nmX7⟩
theorem foX7_59 : mm_fk1 RX7 59 7 17 := ⟨RX7, TX7, 18, rfl, rfl, inRX7, by decide, (mm_gw_of (List.mem_of_getElem? (i := 217) (by decide +kernel)) rfl)⟩
theorem pfX7_17 : ∀ C T N, mm_cl[7]? = some (C, T, N) → (T 17).2.2.2 = true ∧ (T 17).1 = RX7 ∧ (∃ ty, parseFieldDescriptor (T 17).2.2.1 = some ty ∧ ∀ a, narrow ty (.ref a) = .ref a ∧ fits ty (.ref a) = true) ∧ (∃ ty0 : Nat → FieldType, ∀ k, k < N → parseFieldDescriptor (T k).2.2.1 = some (ty0 k)) ∧ ∀ a, a < N → ∀ b, b < N → a ≠ b → (T a).2.1 ≠ (T b).2.1 := by
  intro C T N h
  cases h
  exact ⟨rfl, rfl, ⟨tyX7 17, by decide +kernel, fun a => ⟨rfl, rfl⟩⟩, ⟨tyX7, tyX7_ok⟩, nmX7⟩
theorem alX6_13 : Cond.classLink RX6 13 "BatchWarehouse$Stock" ∈ mm_gw := (mm_gw_of (List.mem_of_getElem? (i := 268) (by decide +kernel)) rfl)
theorem foX6_15 : mm_fk1 RX6 15 6 0 := ⟨RX6, TX6, 2, rfl, rfl, inRX6, by decide, (mm_gw_of (List.mem_of_getElem? (i := 273) (by decide +kernel)) rfl)⟩
theorem pfX6_0 : ∀ C T N, mm_cl[6]? = some (C, T, N) → (T 0).2.2.2 = true ∧ (T 0).1 = RX6 ∧ (∃ ty, parseFieldDescriptor (T 0).2.2.1 = some ty ∧ ∀ a, narrow ty (.ref a) = .ref a ∧ fits ty (.ref a) = true) ∧ (∃ ty0 : Nat → FieldType, ∀ k, k < N → parseFieldDescriptor (T k).2.2.1 = some (ty0 k)) ∧ ∀ a, a < N → ∀ b, b < N → a ≠ b → (T a).2.1 ≠ (T b).2.1 := by
  intro C T N h
  cases h
  exact ⟨rfl, rfl, ⟨tyX6 0, by decide +kernel, fun a => ⟨rfl, rfl⟩⟩, ⟨tyX6, tyX6_ok⟩, nmX6⟩
theorem nkX6_21 : mm_nk RX6 21 4 := ⟨RX4, TX4, 1, tyX4, rfl, rfl, inRX4, tyX4_ok, by decide +kernel, (mm_gw_of (List.mem_of_getElem? (i := 270) (by decide +kernel)) rfl), (mm_gw_of (List.mem_of_getElem? (i := 139) (by decide +kernel)) rfl), (mm_gw_of (List.mem_of_getElem? (i := 36) (by decide +kernel)) rfl)⟩
theorem foX6_26 : mm_fk1 RX6 26 6 1 := ⟨RX6, TX6, 2, rfl, rfl, inRX6, by decide, (mm_gw_of (List.mem_of_getElem? (i := 274) (by decide +kernel)) rfl)⟩
theorem pfX6_1 : ∀ C T N, mm_cl[6]? = some (C, T, N) → (T 1).2.2.2 = true ∧ (T 1).1 = RX6 ∧ (∃ ty, parseFieldDescriptor (T 1).2.2.1 = some ty ∧ ∀ a, narrow ty (.ref a) = .ref a ∧ fits ty (.ref a) = true) ∧ (∃ ty0 : Nat → FieldType, ∀ k, k < N → parseFieldDescriptor (T k).2.2.1 = some (ty0 k)) ∧ ∀ a, a < N → ∀ b, b < N → a ≠ b → (T a).2.1 ≠ (T b).2.1 := by
  intro C T N h
  cases h
  exact ⟨rfl, rfl, ⟨tyX6 1, by decide +kernel, fun a => ⟨rfl, rfl⟩⟩, ⟨tyX6, tyX6_ok⟩, nmX6⟩
theorem nkX6_13 : mm_nk RX6 13 7 := ⟨RX7, TX7, 18, tyX7, rfl, rfl, inRX7, tyX7_ok, by decide +kernel, (mm_gw_of (List.mem_of_getElem? (i := 268) (by decide +kernel)) rfl), (mm_gw_of (List.mem_of_getElem? (i := 184) (by decide +kernel)) rfl), (mm_gw_of (List.mem_of_getElem? (i := 38) (by decide +kernel)) rfl)⟩
theorem nkX2_9 : mm_nk RX2 9 6 := ⟨RX6, TX6, 2, tyX6, rfl, rfl, inRX6, tyX6_ok, by decide +kernel, (mm_gw_of (List.mem_of_getElem? (i := 261) (by decide +kernel)) rfl), (mm_gw_of (List.mem_of_getElem? (i := 262) (by decide +kernel)) rfl), (mm_gw_of (List.mem_of_getElem? (i := 40) (by decide +kernel)) rfl)⟩
theorem foX2_14 : mm_fk1 RX2 14 2 0 := ⟨RX2, TX2, 3, rfl, rfl, inRX2, by decide, (mm_gw_of (List.mem_of_getElem? (i := 280) (by decide +kernel)) rfl)⟩
theorem pfX2_0 : ∀ C T N, mm_cl[2]? = some (C, T, N) → (T 0).2.2.2 = true ∧ (T 0).1 = RX2 ∧ (∃ ty, parseFieldDescriptor (T 0).2.2.1 = some ty ∧ ∀ a, narrow ty (.ref a) = .ref a ∧ fits ty (.ref a) = true) ∧ (∃ ty0 : Nat → FieldType, ∀ k, k < N → parseFieldDescriptor (T k).2.2.1 = some (ty0 k)) ∧ ∀ a, a < N → ∀ b, b < N → a ≠ b → (T a).2.1 ≠ (T b).2.1 := by
  intro C T N h
  cases h
  exact ⟨rfl, rfl, ⟨tyX2 0, by decide +kernel, fun a => ⟨rfl, rfl⟩⟩, ⟨tyX2, tyX2_ok⟩, nmX2⟩
theorem foX8_15 : mm_fk1 RX8 15 8 0 := ⟨RX8, TX8, 2, rfl, rfl, inRX8, by decide, (mm_gw_of (List.mem_of_getElem? (i := 77) (by decide +kernel)) rfl)⟩
theorem pfX8_0 : ∀ C T N, mm_cl[8]? = some (C, T, N) → (T 0).2.2.2 = true ∧ (T 0).1 = RX8 ∧ (∃ ty, parseFieldDescriptor (T 0).2.2.1 = some ty ∧ ∀ a, narrow ty (.ref a) = .ref a ∧ fits ty (.ref a) = true) ∧ (∃ ty0 : Nat → FieldType, ∀ k, k < N → parseFieldDescriptor (T k).2.2.1 = some (ty0 k)) ∧ ∀ a, a < N → ∀ b, b < N → a ≠ b → (T a).2.1 ≠ (T b).2.1 := by
  intro C T N h
  cases h
  exact ⟨rfl, rfl, ⟨tyX8 0, by decide +kernel, fun a => ⟨rfl, rfl⟩⟩, ⟨tyX8, tyX8_ok⟩, nmX8⟩
theorem nkX9_9 : mm_nk RX9 9 8 := ⟨RX8, TX8, 2, tyX8, rfl, rfl, inRX8, tyX8_ok, by decide +kernel, (mm_gw_of (List.mem_of_getElem? (i := 99) (by decide +kernel)) rfl), (mm_gw_of (List.mem_of_getElem? (i := 69) (by decide +kernel)) rfl), (mm_gw_of (List.mem_of_getElem? (i := 31) (by decide +kernel)) rfl)⟩
theorem foX9_14 : mm_fk1 RX9 14 9 0 := ⟨RX9, TX9, 5, rfl, rfl, inRX9, by decide, (mm_gw_of (List.mem_of_getElem? (i := 101) (by decide +kernel)) rfl)⟩
theorem nkX3_9 : mm_nk RX3 9 9 := ⟨RX9, TX9, 5, tyX9, rfl, rfl, inRX9, tyX9_ok, by decide +kernel, (mm_gw_of (List.mem_of_getElem? (i := 93) (by decide +kernel)) rfl), (mm_gw_of (List.mem_of_getElem? (i := 94) (by decide +kernel)) rfl), (mm_gw_of (List.mem_of_getElem? (i := 34) (by decide +kernel)) rfl)⟩
theorem foX3_12 : mm_fk1 RX3 12 3 0 := ⟨RX3, TX3, 3, rfl, rfl, inRX3, by decide, (mm_gw_of (List.mem_of_getElem? (i := 122) (by decide +kernel)) rfl)⟩
theorem pfX3_0 : ∀ C T N, mm_cl[3]? = some (C, T, N) → (T 0).2.2.2 = true ∧ (T 0).1 = RX3 ∧ (∃ ty, parseFieldDescriptor (T 0).2.2.1 = some ty ∧ ∀ a, narrow ty (.ref a) = .ref a ∧ fits ty (.ref a) = true) ∧ (∃ ty0 : Nat → FieldType, ∀ k, k < N → parseFieldDescriptor (T k).2.2.1 = some (ty0 k)) ∧ ∀ a, a < N → ∀ b, b < N → a ≠ b → (T a).2.1 ≠ (T b).2.1 := by
  intro C T N h
  cases h
  exact ⟨rfl, rfl, ⟨tyX3 0, by decide +kernel, fun a => ⟨rfl, rfl⟩⟩, ⟨tyX3, tyX3_ok⟩, nmX3⟩
theorem nkX5_9 : mm_nk RX5 9 4 := ⟨RX4, TX4, 1, tyX4, rfl, rfl, inRX4, tyX4_ok, by decide +kernel, (mm_gw_of (List.mem_of_getElem? (i := 138) (by decide +kernel)) rfl), (mm_gw_of (List.mem_of_getElem? (i := 139) (by decide +kernel)) rfl), (mm_gw_of (List.mem_of_getElem? (i := 36) (by decide +kernel)) rfl)⟩
theorem foX5_14 : mm_fk1 RX5 14 5 2 := ⟨RX5, TX5, 4, rfl, rfl, inRX5, by decide, (mm_gw_of (List.mem_of_getElem? (i := 150) (by decide +kernel)) rfl)⟩
theorem pfX5_2 : ∀ C T N, mm_cl[5]? = some (C, T, N) → (T 2).2.2.2 = true ∧ (T 2).1 = RX5 ∧ (∃ ty, parseFieldDescriptor (T 2).2.2.1 = some ty ∧ ∀ a, narrow ty (.ref a) = .ref a ∧ fits ty (.ref a) = true) ∧ (∃ ty0 : Nat → FieldType, ∀ k, k < N → parseFieldDescriptor (T k).2.2.1 = some (ty0 k)) ∧ ∀ a, a < N → ∀ b, b < N → a ≠ b → (T a).2.1 ≠ (T b).2.1 := by
  intro C T N h
  cases h
  exact ⟨rfl, rfl, ⟨tyX5 2, by decide +kernel, fun a => ⟨rfl, rfl⟩⟩, ⟨tyX5, tyX5_ok⟩, nmX5⟩
theorem foX5_20 : mm_fk1 RX5 20 5 3 := ⟨RX5, TX5, 4, rfl, rfl, inRX5, by decide, (mm_gw_of (List.mem_of_getElem? (i := 151) (by decide +kernel)) rfl)⟩
theorem pfX5_3 : ∀ C T N, mm_cl[5]? = some (C, T, N) → (T 3).2.2.2 = true ∧ (T 3).1 = RX5 ∧ (∃ ty, parseFieldDescriptor (T 3).2.2.1 = some ty ∧ ∀ a, narrow ty (.ref a) = .ref a ∧ fits ty (.ref a) = true) ∧ (∃ ty0 : Nat → FieldType, ∀ k, k < N → parseFieldDescriptor (T k).2.2.1 = some (ty0 k)) ∧ ∀ a, a < N → ∀ b, b < N → a ≠ b → (T a).2.1 ≠ (T b).2.1 := by
  intro C T N h
  cases h
  exact ⟨rfl, rfl, ⟨tyX5 3, by decide +kernel, fun a => ⟨rfl, rfl⟩⟩, ⟨tyX5, tyX5_ok⟩, nmX5⟩
theorem nkX10_7 : mm_nk RX10 7 8 := ⟨RX8, TX8, 2, tyX8, rfl, rfl, inRX8, tyX8_ok, by decide +kernel, (mm_gw_of (List.mem_of_getElem? (i := 68) (by decide +kernel)) rfl), (mm_gw_of (List.mem_of_getElem? (i := 69) (by decide +kernel)) rfl), (mm_gw_of (List.mem_of_getElem? (i := 31) (by decide +kernel)) rfl)⟩
theorem foX10_14 : mm_fk1 RX10 14 10 0 := ⟨RX10, TX10, 11, rfl, rfl, inRX10, by decide, (mm_gw_of (List.mem_of_getElem? (i := 396) (by decide +kernel)) rfl)⟩
theorem pfX10_0 : ∀ C T N, mm_cl[10]? = some (C, T, N) → (T 0).2.2.2 = true ∧ (T 0).1 = RX10 ∧ (∃ ty, parseFieldDescriptor (T 0).2.2.1 = some ty ∧ ∀ a, narrow ty (.ref a) = .ref a ∧ fits ty (.ref a) = true) ∧ (∃ ty0 : Nat → FieldType, ∀ k, k < N → parseFieldDescriptor (T k).2.2.1 = some (ty0 k)) ∧ ∀ a, a < N → ∀ b, b < N → a ≠ b → (T a).2.1 ≠ (T b).2.1 := by
  intro C T N h
  cases h
  exact ⟨rfl, rfl, ⟨tyX10 0, by decide +kernel, fun a => ⟨rfl, rfl⟩⟩, ⟨tyX10, tyX10_ok⟩, nmX10⟩
theorem foX10_18 : mm_fk1 RX10 18 10 1 := ⟨RX10, TX10, 11, rfl, rfl, inRX10, by decide, (mm_gw_of (List.mem_of_getElem? (i := 397) (by decide +kernel)) rfl)⟩
theorem pfX10_1 : ∀ C T N, mm_cl[10]? = some (C, T, N) → (T 1).2.2.2 = true ∧ (T 1).1 = RX10 ∧ (∃ ty, parseFieldDescriptor (T 1).2.2.1 = some ty ∧ ∀ a, narrow ty (.ref a) = .ref a ∧ fits ty (.ref a) = true) ∧ (∃ ty0 : Nat → FieldType, ∀ k, k < N → parseFieldDescriptor (T k).2.2.1 = some (ty0 k)) ∧ ∀ a, a < N → ∀ b, b < N → a ≠ b → (T a).2.1 ≠ (T b).2.1 := by
  intro C T N h
  cases h
  exact ⟨rfl, rfl, ⟨tyX10 1, by decide +kernel, fun a => ⟨rfl, rfl⟩⟩, ⟨tyX10, tyX10_ok⟩, nmX10⟩
theorem nkX10_21 : mm_nk RX10 21 3 := ⟨RX3, TX3, 3, tyX3, rfl, rfl, inRX3, tyX3_ok, by decide +kernel, (mm_gw_of (List.mem_of_getElem? (i := 87) (by decide +kernel)) rfl), (mm_gw_of (List.mem_of_getElem? (i := 88) (by decide +kernel)) rfl), (mm_gw_of (List.mem_of_getElem? (i := 33) (by decide +kernel)) rfl)⟩
theorem foX10_24 : mm_fk1 RX10 24 10 2 := ⟨RX10, TX10, 11, rfl, rfl, inRX10, by decide, (mm_gw_of (List.mem_of_getElem? (i := 398) (by decide +kernel)) rfl)⟩
theorem pfX10_2 : ∀ C T N, mm_cl[10]? = some (C, T, N) → (T 2).2.2.2 = true ∧ (T 2).1 = RX10 ∧ (∃ ty, parseFieldDescriptor (T 2).2.2.1 = some ty ∧ ∀ a, narrow ty (.ref a) = .ref a ∧ fits ty (.ref a) = true) ∧ (∃ ty0 : Nat → FieldType, ∀ k, k < N → parseFieldDescriptor (T k).2.2.1 = some (ty0 k)) ∧ ∀ a, a < N → ∀ b, b < N → a ≠ b → (T a).2.1 ≠ (T b).2.1 := by
  intro C T N h
  cases h
  exact ⟨rfl, rfl, ⟨tyX10 2, by decide +kernel, fun a => ⟨rfl, rfl⟩⟩, ⟨tyX10, tyX10_ok⟩, nmX10⟩
theorem nkX10_28 : mm_nk RX10 28 5 := ⟨RX5, TX5, 4, tyX5, rfl, rfl, inRX5, tyX5_ok, by decide +kernel, (mm_gw_of (List.mem_of_getElem? (i := 132) (by decide +kernel)) rfl), (mm_gw_of (List.mem_of_getElem? (i := 133) (by decide +kernel)) rfl), (mm_gw_of (List.mem_of_getElem? (i := 35) (by decide +kernel)) rfl)⟩
theorem foX10_31 : mm_fk1 RX10 31 10 3 := ⟨RX10, TX10, 11, rfl, rfl, inRX10, by decide, (mm_gw_of (List.mem_of_getElem? (i := 399) (by decide +kernel)) rfl)⟩
theorem pfX10_3 : ∀ C T N, mm_cl[10]? = some (C, T, N) → (T 3).2.2.2 = true ∧ (T 3).1 = RX10 ∧ (∃ ty, parseFieldDescriptor (T 3).2.2.1 = some ty ∧ ∀ a, narrow ty (.ref a) = .ref a ∧ fits ty (.ref a) = true) ∧ (∃ ty0 : Nat → FieldType, ∀ k, k < N → parseFieldDescriptor (T k).2.2.1 = some (ty0 k)) ∧ ∀ a, a < N → ∀ b, b < N → a ≠ b → (T a).2.1 ≠ (T b).2.1 := by
  intro C T N h
  cases h
  exact ⟨rfl, rfl, ⟨tyX10 3, by decide +kernel, fun a => ⟨rfl, rfl⟩⟩, ⟨tyX10, tyX10_ok⟩, nmX10⟩
theorem nkX10_35 : mm_nk RX10 35 1 := ⟨RX1, TX1, 4, tyX1, rfl, rfl, inRX1, tyX1_ok, by decide +kernel, (mm_gw_of (List.mem_of_getElem? (i := 161) (by decide +kernel)) rfl), (mm_gw_of (List.mem_of_getElem? (i := 162) (by decide +kernel)) rfl), (mm_gw_of (List.mem_of_getElem? (i := 37) (by decide +kernel)) rfl)⟩
theorem foX10_38 : mm_fk1 RX10 38 10 4 := ⟨RX10, TX10, 11, rfl, rfl, inRX10, by decide, (mm_gw_of (List.mem_of_getElem? (i := 400) (by decide +kernel)) rfl)⟩
theorem pfX10_4 : ∀ C T N, mm_cl[10]? = some (C, T, N) → (T 4).2.2.2 = true ∧ (T 4).1 = RX10 ∧ (∃ ty, parseFieldDescriptor (T 4).2.2.1 = some ty ∧ ∀ a, narrow ty (.ref a) = .ref a ∧ fits ty (.ref a) = true) ∧ (∃ ty0 : Nat → FieldType, ∀ k, k < N → parseFieldDescriptor (T k).2.2.1 = some (ty0 k)) ∧ ∀ a, a < N → ∀ b, b < N → a ≠ b → (T a).2.1 ≠ (T b).2.1 := by
  intro C T N h
  cases h
  exact ⟨rfl, rfl, ⟨tyX10 4, by decide +kernel, fun a => ⟨rfl, rfl⟩⟩, ⟨tyX10, tyX10_ok⟩, nmX10⟩
theorem nkX10_42 : mm_nk RX10 42 7 := ⟨RX7, TX7, 18, tyX7, rfl, rfl, inRX7, tyX7_ok, by decide +kernel, (mm_gw_of (List.mem_of_getElem? (i := 183) (by decide +kernel)) rfl), (mm_gw_of (List.mem_of_getElem? (i := 184) (by decide +kernel)) rfl), (mm_gw_of (List.mem_of_getElem? (i := 38) (by decide +kernel)) rfl)⟩
theorem foX10_45 : mm_fk1 RX10 45 10 5 := ⟨RX10, TX10, 11, rfl, rfl, inRX10, by decide, (mm_gw_of (List.mem_of_getElem? (i := 401) (by decide +kernel)) rfl)⟩
theorem pfX10_5 : ∀ C T N, mm_cl[10]? = some (C, T, N) → (T 5).2.2.2 = true ∧ (T 5).1 = RX10 ∧ (∃ ty, parseFieldDescriptor (T 5).2.2.1 = some ty ∧ ∀ a, narrow ty (.ref a) = .ref a ∧ fits ty (.ref a) = true) ∧ (∃ ty0 : Nat → FieldType, ∀ k, k < N → parseFieldDescriptor (T k).2.2.1 = some (ty0 k)) ∧ ∀ a, a < N → ∀ b, b < N → a ≠ b → (T a).2.1 ≠ (T b).2.1 := by
  intro C T N h
  cases h
  exact ⟨rfl, rfl, ⟨tyX10 5, by decide +kernel, fun a => ⟨rfl, rfl⟩⟩, ⟨tyX10, tyX10_ok⟩, nmX10⟩
theorem foX10_49 : mm_fk1 RX10 49 10 6 := ⟨RX10, TX10, 11, rfl, rfl, inRX10, by decide, (mm_gw_of (List.mem_of_getElem? (i := 402) (by decide +kernel)) rfl)⟩
theorem pfX10_6 : ∀ C T N, mm_cl[10]? = some (C, T, N) → (T 6).2.2.2 = true ∧ (T 6).1 = RX10 ∧ (∃ ty, parseFieldDescriptor (T 6).2.2.1 = some ty ∧ ∀ a, narrow ty (.ref a) = .ref a ∧ fits ty (.ref a) = true) ∧ (∃ ty0 : Nat → FieldType, ∀ k, k < N → parseFieldDescriptor (T k).2.2.1 = some (ty0 k)) ∧ ∀ a, a < N → ∀ b, b < N → a ≠ b → (T a).2.1 ≠ (T b).2.1 := by
  intro C T N h
  cases h
  exact ⟨rfl, rfl, ⟨tyX10 6, by decide +kernel, fun a => ⟨rfl, rfl⟩⟩, ⟨tyX10, tyX10_ok⟩, nmX10⟩
theorem foX10_52 : mm_fk1 RX10 52 10 7 := ⟨RX10, TX10, 11, rfl, rfl, inRX10, by decide, (mm_gw_of (List.mem_of_getElem? (i := 403) (by decide +kernel)) rfl)⟩
theorem pfX10_7 : ∀ C T N, mm_cl[10]? = some (C, T, N) → (T 7).2.2.2 = true ∧ (T 7).1 = RX10 ∧ (∃ ty, parseFieldDescriptor (T 7).2.2.1 = some ty ∧ ∀ a, narrow ty (.ref a) = .ref a ∧ fits ty (.ref a) = true) ∧ (∃ ty0 : Nat → FieldType, ∀ k, k < N → parseFieldDescriptor (T k).2.2.1 = some (ty0 k)) ∧ ∀ a, a < N → ∀ b, b < N → a ≠ b → (T a).2.1 ≠ (T b).2.1 := by
  intro C T N h
  cases h
  exact ⟨rfl, rfl, ⟨tyX10 7, by decide +kernel, fun a => ⟨rfl, rfl⟩⟩, ⟨tyX10, tyX10_ok⟩, nmX10⟩
theorem nkX10_55 : mm_nk RX10 55 2 := ⟨RX2, TX2, 3, tyX2, rfl, rfl, inRX2, tyX2_ok, by decide +kernel, (mm_gw_of (List.mem_of_getElem? (i := 255) (by decide +kernel)) rfl), (mm_gw_of (List.mem_of_getElem? (i := 256) (by decide +kernel)) rfl), (mm_gw_of (List.mem_of_getElem? (i := 39) (by decide +kernel)) rfl)⟩
theorem foX10_58 : mm_fk1 RX10 58 10 8 := ⟨RX10, TX10, 11, rfl, rfl, inRX10, by decide, (mm_gw_of (List.mem_of_getElem? (i := 404) (by decide +kernel)) rfl)⟩
theorem pfX10_8 : ∀ C T N, mm_cl[10]? = some (C, T, N) → (T 8).2.2.2 = true ∧ (T 8).1 = RX10 ∧ (∃ ty, parseFieldDescriptor (T 8).2.2.1 = some ty ∧ ∀ a, narrow ty (.ref a) = .ref a ∧ fits ty (.ref a) = true) ∧ (∃ ty0 : Nat → FieldType, ∀ k, k < N → parseFieldDescriptor (T k).2.2.1 = some (ty0 k)) ∧ ∀ a, a < N → ∀ b, b < N → a ≠ b → (T a).2.1 ≠ (T b).2.1 := by
  intro C T N h
  cases h
  exact ⟨rfl, rfl, ⟨tyX10 8, by decide +kernel, fun a => ⟨rfl, rfl⟩⟩, ⟨tyX10, tyX10_ok⟩, nmX10⟩
theorem nkX10_62 : mm_nk RX10 62 6 := ⟨RX6, TX6, 2, tyX6, rfl, rfl, inRX6, tyX6_ok, by decide +kernel, (mm_gw_of (List.mem_of_getElem? (i := 290) (by decide +kernel)) rfl), (mm_gw_of (List.mem_of_getElem? (i := 262) (by decide +kernel)) rfl), (mm_gw_of (List.mem_of_getElem? (i := 40) (by decide +kernel)) rfl)⟩
theorem foX10_65 : mm_fk1 RX10 65 10 9 := ⟨RX10, TX10, 11, rfl, rfl, inRX10, by decide, (mm_gw_of (List.mem_of_getElem? (i := 405) (by decide +kernel)) rfl)⟩
theorem pfX10_9 : ∀ C T N, mm_cl[10]? = some (C, T, N) → (T 9).2.2.2 = true ∧ (T 9).1 = RX10 ∧ (∃ ty, parseFieldDescriptor (T 9).2.2.1 = some ty ∧ ∀ a, narrow ty (.ref a) = .ref a ∧ fits ty (.ref a) = true) ∧ (∃ ty0 : Nat → FieldType, ∀ k, k < N → parseFieldDescriptor (T k).2.2.1 = some (ty0 k)) ∧ ∀ a, a < N → ∀ b, b < N → a ≠ b → (T a).2.1 ≠ (T b).2.1 := by
  intro C T N h
  cases h
  exact ⟨rfl, rfl, ⟨tyX10 9, by decide +kernel, fun a => ⟨rfl, rfl⟩⟩, ⟨tyX10, tyX10_ok⟩, nmX10⟩
theorem nkX10_69 : mm_nk RX10 69 0 := ⟨RX0, TX0, 3, tyX0, rfl, rfl, inRX0, tyX0_ok, by decide +kernel, (mm_gw_of (List.mem_of_getElem? (i := 292) (by decide +kernel)) rfl), (mm_gw_of (List.mem_of_getElem? (i := 293) (by decide +kernel)) rfl), (mm_gw_of (List.mem_of_getElem? (i := 41) (by decide +kernel)) rfl)⟩
theorem foX10_72 : mm_fk1 RX10 72 10 10 := ⟨RX10, TX10, 11, rfl, rfl, inRX10, by decide, (mm_gw_of (List.mem_of_getElem? (i := 406) (by decide +kernel)) rfl)⟩
theorem pfX10_10 : ∀ C T N, mm_cl[10]? = some (C, T, N) → (T 10).2.2.2 = true ∧ (T 10).1 = RX10 ∧ (∃ ty, parseFieldDescriptor (T 10).2.2.1 = some ty ∧ ∀ a, narrow ty (.ref a) = .ref a ∧ fits ty (.ref a) = true) ∧ (∃ ty0 : Nat → FieldType, ∀ k, k < N → parseFieldDescriptor (T k).2.2.1 = some (ty0 k)) ∧ ∀ a, a < N → ∀ b, b < N → a ≠ b → (T a).2.1 ≠ (T b).2.1 := by
  intro C T N h
  cases h
  exact ⟨rfl, rfl, ⟨tyX10 10, by decide +kernel, fun a => ⟨rfl, rfl⟩⟩, ⟨tyX10, tyX10_ok⟩, nmX10⟩
theorem nkL_19 : mm_nk RL 19 10 := ⟨RX10, TX10, 11, tyX10, rfl, rfl, inRX10, tyX10_ok, by decide +kernel, (mm_gw_of (List.mem_of_getElem? (i := 60) (by decide +kernel)) rfl), (mm_gw_of (List.mem_of_getElem? (i := 61) (by decide +kernel)) rfl), (mm_gw_of (List.mem_of_getElem? (i := 30) (by decide +kernel)) rfl)⟩
theorem nkL_131 : mm_nk RL 131 11 := ⟨RX11, TX11, 5, tyX11, rfl, rfl, inRX11, tyX11_ok, by decide +kernel, (mm_gw_of (List.mem_of_getElem? (i := 883) (by decide +kernel)) rfl), (mm_gw_of (List.mem_of_getElem? (i := 884) (by decide +kernel)) rfl), (mm_gw_of (List.mem_of_getElem? (i := 58) (by decide +kernel)) rfl)⟩
def gX1_addProduct_L6 (o : Nat) (p0 : Nat) (u3 : Int32) : Nat → Int32 → mm_H → Option mm_H
  | 0, _, _ => none
  | n + 1, w4, h5 =>
    if w4 < (mm_sl p0) then
    if mm_ibd w4 (mm_sn p0) = true then
    (gX1_addLetter o ((mm_sc p0 w4)) h5).bind (fun (h10 : mm_H) =>
    (some (w4 + 1)).bind (fun (x12 : Int32) =>
    gX1_addProduct_L6 o p0 u3 n x12 h10)) else none
    else
    (gX1_setMinimum o u3 h5).bind (fun (h7 : mm_H) =>
    some h7)
def gX1_addProduct (o : Nat) (p0 : Nat) (p1 : Int32) (h : mm_H) : Option mm_H :=
(gX1_addNameless o h).bind (fun (h1 : mm_H) =>
gX1_addProduct_L6 o p0 p1 mm_F 0 h1)
theorem rX1_addProduct_L6 {q : mm_q} (o : Nat) (p0 : Nat) (u3 : Int32)   (ho : mm_kd o = (0, 1)) (hp0 : p0 < 17) : ∀ (n : Nat) (w4 : Int32) (h5 : mm_H), mm_E2 (mm_Sq q) (mm_Sq q) mX1_addProduct 6 [some (.ref o), some (.ref (401 + p0)), some (.int u3), some (.int w4)] [] h5 (gX1_addProduct_L6 o p0 u3  n w4 h5) lf_v := by
  intro n
  induction n with
  | zero =>
    intro w4 h5
    exact mm_none
  | succ n ih =>
    intro w4 h5
    rw [gX1_addProduct_L6]
    refine me_iload_n (pc' := 7) (i := 3) dX1_addProduct_6 rfl rfl rfl ?_
    refine me_aload_n (pc' := 8) (i := 1) dX1_addProduct_7 rfl rfl rfl ?_
    refine me_slen (pc' := 11) (i := p0) dX1_addProduct_8 rfl ljX1_37 hp0 ⟨Nat.le_of_ble_eq_true rfl, Nat.le_of_ble_eq_true rfl⟩ (Nat.le_of_ble_eq_true rfl) ?_
    refine me_icmp_ge (pc' := 14) (tgt := 29) dX1_addProduct_11 (by decide) rfl (fun c6 => ?_) (fun c6 => ?_)
    · refine me_aload_n (pc' := 30) (i := 0) dX1_addProduct_29 rfl rfl rfl ?_
      refine me_iload_n (pc' := 31) (i := 2) dX1_addProduct_30 rfl rfl rfl ?_
      refine me_callV (As := [.int u3]) (st := []) (F' := (mm_Sq q)) (G' := (mm_Sq q)) (F'' := (mm_Sq q)) (pc' := 34) dX1_addProduct_31 rfl mfX1_setMinimum rfl lkX1_50 (mm_ks ho) rfl (mm_ltq ho) ⟨Nat.le_of_ble_eq_true rfl, Nat.le_of_ble_eq_true rfl⟩ (Nat.le_of_ble_eq_true rfl) (fun z => z) (rX1_setMinimum (q := q) o u3 h5 ho) (fun h7 e8 => Or.inl ⟨_, _, rfl, fun z => z, ?_⟩)
      show mm_E2 _ _ _ _ _ [] h7 _ _
      exact me_vret dX1_addProduct_34 rfl (fun z => z) rfl
    · refine me_aload_n (pc' := 15) (i := 0) dX1_addProduct_14 rfl rfl rfl ?_
      refine me_aload_n (pc' := 16) (i := 1) dX1_addProduct_15 rfl rfl rfl ?_
      refine me_iload_n (pc' := 17) (i := 3) dX1_addProduct_16 rfl rfl rfl ?_
      refine mm_guard (fun c9 => ?_)
      refine me_schar (pc' := 20) (i := p0) dX1_addProduct_17 rfl ljX1_43 hp0 (mm_ibd_of c9) ⟨Nat.le_of_ble_eq_true rfl, Nat.le_of_ble_eq_true rfl⟩ (Nat.le_of_ble_eq_true rfl) ?_
      refine me_callV (As := [.int (mm_sc p0 w4)]) (st := []) (F' := (mm_Sq q)) (G' := (mm_Sq q)) (F'' := (mm_Sq q)) (pc' := 23) dX1_addProduct_20 rfl mfX1_addLetter rfl lkX1_47 (mm_ks ho) rfl (mm_ltq ho) ⟨Nat.le_of_ble_eq_true rfl, Nat.le_of_ble_eq_true rfl⟩ (Nat.le_of_ble_eq_true rfl) (fun z => z) (rX1_addLetter (q := q) o ((mm_sc p0 w4)) h5 ho) (fun h10 e11 => Or.inl ⟨_, _, rfl, fun z => z, ?_⟩)
      show mm_E2 _ _ _ _ _ [] h10 _ _
      refine me_iinc (pc' := 26) (i := 3) (x := w4) (y := w4 + 1) (L' := [some (.ref o), some (.ref (401 + p0)), some (.int u3), some (.int (w4 + 1))]) dX1_addProduct_23 rfl (Nat.le_of_ble_eq_true rfl) (Nat.le_of_ble_eq_true rfl) rfl (kc_plus kc_i1) rfl ?_
      refine mm_bnd (w4 + 1) (fun x12 => [some (.ref o), some (.ref (401 + p0)), some (.int u3), some (.int x12)]) (fun _ => []) (fun _ => h10) (fun x12 => ?_)
      refine me_goto (tgt := 6) dX1_addProduct_26 (by decide) ?_
      exact ih x12 h10
theorem rX1_addProduct {q : mm_q} (o : Nat) (p0 : Nat) (p1 : Int32) (h : mm_H) (ho : mm_kd o = (0, 1)) (hp0 : p0 < 17) : mm_R2 (mm_Sq q) (mm_Sq q) mX1_addProduct [.ref o, .ref (401 + p0), .int p1] h (gX1_addProduct o p0 p1 h) lf_v := by
  refine mm_body (L := [some (.ref o), some (.ref (401 + p0)), some (.int p1), none]) rfl (by decide +kernel) (Nat.le_of_ble_eq_true rfl) rfl ?_
  unfold gX1_addProduct
  refine me_aload_n (pc' := 1) (i := 0) dX1_addProduct_0 rfl rfl rfl ?_
  refine me_callV (As := []) (st := []) (F' := (mm_Sq q)) (G' := (mm_Sq q)) (F'' := (mm_Sq q)) (pc' := 4) dX1_addProduct_1 rfl mfX1_addNameless rfl lkX1_34 (mm_ks ho) rfl (mm_ltq ho) ⟨Nat.le_of_ble_eq_true rfl, Nat.le_of_ble_eq_true rfl⟩ (Nat.le_of_ble_eq_true rfl) (fun z => z) (rX1_addNameless (q := q) o h ho) (fun h1 e2 => Or.inl ⟨_, _, rfl, fun z => z, ?_⟩)
  show mm_E2 _ _ _ _ _ [] h1 _ _
  refine me_iconst (pc' := 5) (v := 0) dX1_addProduct_4 rfl kc_i0 ?_
  refine me_istore_n (pc' := 6) (i := 3) (L' := [some (.ref o), some (.ref (401 + p0)), some (.int p1), some (.int 0)]) dX1_addProduct_5 rfl rfl (Nat.le_of_ble_eq_true rfl) (Nat.le_of_ble_eq_true rfl) rfl ?_
  exact rX1_addProduct_L6 (q := q) o p0 p1 ho hp0 mm_F 0 h1
def gX4_init (o : Nat) (p0 : Int32) (h : mm_H) : Option mm_H :=
if mm_kd (mh_n h) = (1, (Int32.toNatClampNeg ((mm_max 0 p0)))) ∧ ¬ ((mm_max 0 p0) : Int32) < 0 ∧ (Int32.toNatClampNeg ((mm_max 0 p0))) ≤ 60000 then
(some (ms_N h (Int32.toNatClampNeg ((mm_max 0 p0))))).bind (fun (h2 : mm_H) =>
if o < mh_n h2 then
(some (ms_R h2 o 0 (some ((mh_n h))))).bind (fun (h3 : mm_H) =>
some h3) else none) else none
theorem rX4_init (o : Nat) (p0 : Int32) (h : mm_H) (ho : mm_kd o = (0, 4)) : mm_R2 mm_K mm_K mX4_init [.ref o, .int p0] h (gX4_init o p0 h) lf_v := by
  refine mm_body (L := [some (.ref o), some (.int p0)]) rfl (by decide +kernel) (Nat.le_of_ble_eq_true rfl) rfl ?_
  unfold gX4_init
  refine me_aload_n (pc' := 1) (i := 0) dX4_init_0 rfl rfl rfl ?_
  refine me_objInit (pc' := 4) dX4_init_1 rfl ljX4_1 ⟨Nat.le_of_ble_eq_true rfl, Nat.le_of_ble_eq_true rfl⟩ (Nat.le_of_ble_eq_true rfl) ?_
  refine me_aload_n (pc' := 5) (i := 0) dX4_init_4 rfl rfl rfl ?_
  refine me_iconst (pc' := 6) (v := 0) dX4_init_5 rfl kc_i0 ?_
  refine me_iload_n (pc' := 7) (i := 1) dX4_init_6 rfl rfl rfl ?_
  refine me_mmax (pc' := 10) dX4_init_7 rfl ljX4_7 ⟨Nat.le_of_ble_eq_true rfl, Nat.le_of_ble_eq_true rfl⟩ (Nat.le_of_ble_eq_true rfl) ?_
  show mm_E2 _ _ _ _ _ [.int (mm_max 0 p0), .ref o] _ _ _
  refine mm_guard (fun c1 => ?_)
  refine me_newaI (F' := mm_K) (pc' := 12) (N := (Int32.toNatClampNeg ((mm_max 0 p0)))) dX4_init_10 rfl c1.1 c1.2.1 rfl c1.2.2 (fun z => z) mm_K_N ?_
  refine mm_bnd (ms_N h (Int32.toNatClampNeg ((mm_max 0 p0)))) (fun _ => [some (.ref o), some (.int p0)]) (fun _ => [.ref (mh_n h), .ref o]) (fun h2 => h2) (fun h2 => ?_)
  refine mm_guard (fun c4 => ?_)
  refine me_putF (F' := mm_K) (pc' := 15) dX4_init_12 rfl foX4_13 (mm_ks ho) (fun _ => c4) rfl rfl pfX4_0 (fun z => z) ?_
  refine mm_bnd (ms_R h2 o 0 (some ((mh_n h)))) (fun _ => [some (.ref o), some (.int p0)]) (fun _ => []) (fun h3 => h3) (fun h3 => ?_)
  exact me_vret dX4_init_15 rfl (fun z => z) rfl
def gX0_init (h : mm_H) : Option mm_H :=
if mm_kd (mh_n h) = (0, 4) then
(some (ms_N h 1)).bind (fun (h2 : mm_H) =>
(gX4_init ((mh_n h)) 20 h2).bind (fun (h3 : mm_H) =>
if 347 < mh_n h3 then
(some (ms_R h3 347 1 (some ((mh_n h))))).bind (fun (h5 : mm_H) =>
if mm_kd (mh_n h5) = (0, 4) then
(some (ms_N h5 1)).bind (fun (h8 : mm_H) =>
(gX4_init ((mh_n h5)) 20 h8).bind (fun (h9 : mm_H) =>
if 347 < mh_n h9 then
(some (ms_R h9 347 2 (some ((mh_n h5))))).bind (fun (h11 : mm_H) =>
some h11) else none)) else none) else none)) else none
theorem rX0_init (h : mm_H) : mm_R2 mm_K mm_K mX0_init [.ref 347] h (gX0_init h) lf_v := by
  refine mm_body (L := [some (.ref 347)]) rfl (by decide +kernel) (Nat.le_of_ble_eq_true rfl) rfl ?_
  unfold gX0_init
  refine me_aload_n (pc' := 1) (i := 0) dX0_init_0 rfl rfl rfl ?_
  refine me_objInit (pc' := 4) dX0_init_1 rfl ljX0_3 ⟨Nat.le_of_ble_eq_true rfl, Nat.le_of_ble_eq_true rfl⟩ (Nat.le_of_ble_eq_true rfl) ?_
  refine me_aload_n (pc' := 5) (i := 0) dX0_init_4 rfl rfl rfl ?_
  refine mm_guard (fun c1 => ?_)
  refine me_new (F' := mm_K) (pc' := 8) (N := 1) (ci := 4) dX0_init_5 rfl nkX0_9 rfl c1 (fun z => z) mm_K_N ?_
  refine mm_bnd (ms_N h 1) (fun _ => [some (.ref 347)]) (fun _ => [.ref (mh_n h), .ref 347]) (fun h2 => h2) (fun h2 => ?_)
  refine me_dup (pc' := 9) dX0_init_8 rfl rfl ?_
  refine me_bipush (pc' := 11) (v := 20) dX0_init_9 rfl kc_b20 ?_
  refine me_callI (As := [.int 20]) (st := [.ref (mh_n h), .ref 347]) (F' := mm_K) (G' := mm_K) (F'' := mm_K) (pc' := 14) dX0_init_11 rfl mfX4_init rfl lkX0_11 ⟨Nat.le_of_ble_eq_true rfl, Nat.le_of_ble_eq_true rfl⟩ (Nat.le_of_ble_eq_true rfl) (fun z => z) (rX4_init ((mh_n h)) 20 h2 c1) (fun h3 e4 => Or.inl ⟨_, _, rfl, fun z => z, ?_⟩)
  show mm_E2 _ _ _ _ _ [.ref (mh_n h), .ref 347] h3 _ _
  refine mm_guard (fun c6 => ?_)
  refine me_putF (F' := mm_K) (pc' := 17) dX0_init_14 rfl foX0_14 (mm_ks kd_347) (fun _ => c6) rfl rfl pfX0_1 (fun z => z) ?_
  refine mm_bnd (ms_R h3 347 1 (some ((mh_n h)))) (fun _ => [some (.ref 347)]) (fun _ => []) (fun h5 => h5) (fun h5 => ?_)
  refine me_aload_n (pc' := 18) (i := 0) dX0_init_17 rfl rfl rfl ?_
  refine mm_guard (fun c7 => ?_)
  refine me_new (F' := mm_K) (pc' := 21) (N := 1) (ci := 4) dX0_init_18 rfl nkX0_9 rfl c7 (fun z => z) mm_K_N ?_
  refine mm_bnd (ms_N h5 1) (fun _ => [some (.ref 347)]) (fun _ => [.ref (mh_n h5), .ref 347]) (fun h8 => h8) (fun h8 => ?_)
  refine me_dup (pc' := 22) dX0_init_21 rfl rfl ?_
  refine me_bipush (pc' := 24) (v := 20) dX0_init_22 rfl kc_b20 ?_
  refine me_callI (As := [.int 20]) (st := [.ref (mh_n h5), .ref 347]) (F' := mm_K) (G' := mm_K) (F'' := mm_K) (pc' := 27) dX0_init_24 rfl mfX4_init rfl lkX0_11 ⟨Nat.le_of_ble_eq_true rfl, Nat.le_of_ble_eq_true rfl⟩ (Nat.le_of_ble_eq_true rfl) (fun z => z) (rX4_init ((mh_n h5)) 20 h8 c7) (fun h9 e10 => Or.inl ⟨_, _, rfl, fun z => z, ?_⟩)
  show mm_E2 _ _ _ _ _ [.ref (mh_n h5), .ref 347] h9 _ _
  refine mm_guard (fun c12 => ?_)
  refine me_putF (F' := mm_K) (pc' := 30) dX0_init_27 rfl foX0_20 (mm_ks kd_347) (fun _ => c12) rfl rfl pfX0_2 (fun z => z) ?_
  refine mm_bnd (ms_R h9 347 2 (some ((mh_n h5)))) (fun _ => [some (.ref 347)]) (fun _ => []) (fun h11 => h11) (fun h11 => ?_)
  exact me_vret dX0_init_30 rfl (fun z => z) rfl
def gX1_init (o : Nat) (h : mm_H) : Option mm_H :=
if mm_kd (mh_n h) = (0, 4) then
(some (ms_N h 1)).bind (fun (h2 : mm_H) =>
(gX4_init ((mh_n h)) 48 h2).bind (fun (h3 : mm_H) =>
if o < mh_n h3 then
(some (ms_R h3 o 1 (some ((mh_n h))))).bind (fun (h5 : mm_H) =>
if mm_kd (mh_n h5) = (0, 4) then
(some (ms_N h5 1)).bind (fun (h8 : mm_H) =>
(gX4_init ((mh_n h5)) 8 h8).bind (fun (h9 : mm_H) =>
if o < mh_n h9 then
(some (ms_R h9 o 2 (some ((mh_n h5))))).bind (fun (h11 : mm_H) =>
if mm_kd (mh_n h11) = (0, 4) then
(some (ms_N h11 1)).bind (fun (h14 : mm_H) =>
(gX4_init ((mh_n h11)) 8 h14).bind (fun (h15 : mm_H) =>
if o < mh_n h15 then
(some (ms_R h15 o 3 (some ((mh_n h11))))).bind (fun (h17 : mm_H) =>
some h17) else none)) else none) else none)) else none) else none)) else none
theorem rX1_init (o : Nat) (h : mm_H) (ho : mm_kd o = (0, 1)) : mm_R2 mm_K mm_K mX1_init [.ref o] h (gX1_init o h) lf_v := by
  refine mm_body (L := [some (.ref o)]) rfl (by decide +kernel) (Nat.le_of_ble_eq_true rfl) rfl ?_
  unfold gX1_init
  refine me_aload_n (pc' := 1) (i := 0) dX1_init_0 rfl rfl rfl ?_
  refine me_objInit (pc' := 4) dX1_init_1 rfl ljX1_3 ⟨Nat.le_of_ble_eq_true rfl, Nat.le_of_ble_eq_true rfl⟩ (Nat.le_of_ble_eq_true rfl) ?_
  refine me_aload_n (pc' := 5) (i := 0) dX1_init_4 rfl rfl rfl ?_
  refine mm_guard (fun c1 => ?_)
  refine me_new (F' := mm_K) (pc' := 8) (N := 1) (ci := 4) dX1_init_5 rfl nkX1_9 rfl c1 (fun z => z) mm_K_N ?_
  refine mm_bnd (ms_N h 1) (fun _ => [some (.ref o)]) (fun _ => [.ref (mh_n h), .ref o]) (fun h2 => h2) (fun h2 => ?_)
  refine me_dup (pc' := 9) dX1_init_8 rfl rfl ?_
  refine me_bipush (pc' := 11) (v := 48) dX1_init_9 rfl kc_b48 ?_
  refine me_callI (As := [.int 48]) (st := [.ref (mh_n h), .ref o]) (F' := mm_K) (G' := mm_K) (F'' := mm_K) (pc' := 14) dX1_init_11 rfl mfX4_init rfl lkX1_11 ⟨Nat.le_of_ble_eq_true rfl, Nat.le_of_ble_eq_true rfl⟩ (Nat.le_of_ble_eq_true rfl) (fun z => z) (rX4_init ((mh_n h)) 48 h2 c1) (fun h3 e4 => Or.inl ⟨_, _, rfl, fun z => z, ?_⟩)
  show mm_E2 _ _ _ _ _ [.ref (mh_n h), .ref o] h3 _ _
  refine mm_guard (fun c6 => ?_)
  refine me_putF (F' := mm_K) (pc' := 17) dX1_init_14 rfl foX1_14 (mm_ks ho) (fun _ => c6) rfl rfl pfX1_1 (fun z => z) ?_
  refine mm_bnd (ms_R h3 o 1 (some ((mh_n h)))) (fun _ => [some (.ref o)]) (fun _ => []) (fun h5 => h5) (fun h5 => ?_)
  refine me_aload_n (pc' := 18) (i := 0) dX1_init_17 rfl rfl rfl ?_
  refine mm_guard (fun c7 => ?_)
  refine me_new (F' := mm_K) (pc' := 21) (N := 1) (ci := 4) dX1_init_18 rfl nkX1_9 rfl c7 (fun z => z) mm_K_N ?_
  refine mm_bnd (ms_N h5 1) (fun _ => [some (.ref o)]) (fun _ => [.ref (mh_n h5), .ref o]) (fun h8 => h8) (fun h8 => ?_)
  refine me_dup (pc' := 22) dX1_init_21 rfl rfl ?_
  refine me_bipush (pc' := 24) (v := 8) dX1_init_22 rfl kc_b8 ?_
  refine me_callI (As := [.int 8]) (st := [.ref (mh_n h5), .ref o]) (F' := mm_K) (G' := mm_K) (F'' := mm_K) (pc' := 27) dX1_init_24 rfl mfX4_init rfl lkX1_11 ⟨Nat.le_of_ble_eq_true rfl, Nat.le_of_ble_eq_true rfl⟩ (Nat.le_of_ble_eq_true rfl) (fun z => z) (rX4_init ((mh_n h5)) 8 h8 c7) (fun h9 e10 => Or.inl ⟨_, _, rfl, fun z => z, ?_⟩)
  show mm_E2 _ _ _ _ _ [.ref (mh_n h5), .ref o] h9 _ _
  refine mm_guard (fun c12 => ?_)
  refine me_putF (F' := mm_K) (pc' := 30) dX1_init_27 rfl foX1_20 (mm_ks ho) (fun _ => c12) rfl rfl pfX1_2 (fun z => z) ?_
  refine mm_bnd (ms_R h9 o 2 (some ((mh_n h5)))) (fun _ => [some (.ref o)]) (fun _ => []) (fun h11 => h11) (fun h11 => ?_)
  refine me_aload_n (pc' := 31) (i := 0) dX1_init_30 rfl rfl rfl ?_
  refine mm_guard (fun c13 => ?_)
  refine me_new (F' := mm_K) (pc' := 34) (N := 1) (ci := 4) dX1_init_31 rfl nkX1_9 rfl c13 (fun z => z) mm_K_N ?_
  refine mm_bnd (ms_N h11 1) (fun _ => [some (.ref o)]) (fun _ => [.ref (mh_n h11), .ref o]) (fun h14 => h14) (fun h14 => ?_)
  refine me_dup (pc' := 35) dX1_init_34 rfl rfl ?_
  refine me_bipush (pc' := 37) (v := 8) dX1_init_35 rfl kc_b8 ?_
  refine me_callI (As := [.int 8]) (st := [.ref (mh_n h11), .ref o]) (F' := mm_K) (G' := mm_K) (F'' := mm_K) (pc' := 40) dX1_init_37 rfl mfX4_init rfl lkX1_11 ⟨Nat.le_of_ble_eq_true rfl, Nat.le_of_ble_eq_true rfl⟩ (Nat.le_of_ble_eq_true rfl) (fun z => z) (rX4_init ((mh_n h11)) 8 h14 c13) (fun h15 e16 => Or.inl ⟨_, _, rfl, fun z => z, ?_⟩)
  show mm_E2 _ _ _ _ _ [.ref (mh_n h11), .ref o] h15 _ _
  refine mm_guard (fun c18 => ?_)
  refine me_putF (F' := mm_K) (pc' := 43) dX1_init_40 rfl foX1_23 (mm_ks ho) (fun _ => c18) rfl rfl pfX1_3 (fun z => z) ?_
  refine mm_bnd (ms_R h15 o 3 (some ((mh_n h11)))) (fun _ => [some (.ref o)]) (fun _ => []) (fun h17 => h17) (fun h17 => ?_)
  exact me_vret dX1_init_43 rfl (fun z => z) rfl
def gX7_init (o : Nat) (h : mm_H) : Option mm_H :=
if mm_kd (mh_n h) = (0, 4) then
(some (ms_N h 1)).bind (fun (h2 : mm_H) =>
(gX4_init ((mh_n h)) 20 h2).bind (fun (h3 : mm_H) =>
if o < mh_n h3 then
(some (ms_R h3 o 2 (some ((mh_n h))))).bind (fun (h5 : mm_H) =>
if mm_kd (mh_n h5) = (0, 4) then
(some (ms_N h5 1)).bind (fun (h8 : mm_H) =>
(gX4_init ((mh_n h5)) 20 h8).bind (fun (h9 : mm_H) =>
if o < mh_n h9 then
(some (ms_R h9 o 3 (some ((mh_n h5))))).bind (fun (h11 : mm_H) =>
if mm_kd (mh_n h11) = (0, 4) then
(some (ms_N h11 1)).bind (fun (h14 : mm_H) =>
(gX4_init ((mh_n h11)) 20 h14).bind (fun (h15 : mm_H) =>
if o < mh_n h15 then
(some (ms_R h15 o 4 (some ((mh_n h11))))).bind (fun (h17 : mm_H) =>
if mm_kd (mh_n h17) = (0, 4) then
(some (ms_N h17 1)).bind (fun (h20 : mm_H) =>
(gX4_init ((mh_n h17)) 20 h20).bind (fun (h21 : mm_H) =>
if o < mh_n h21 then
(some (ms_R h21 o 5 (some ((mh_n h17))))).bind (fun (h23 : mm_H) =>
if mm_kd (mh_n h23) = (0, 4) then
(some (ms_N h23 1)).bind (fun (h26 : mm_H) =>
(gX4_init ((mh_n h23)) 20 h26).bind (fun (h27 : mm_H) =>
if o < mh_n h27 then
(some (ms_R h27 o 6 (some ((mh_n h23))))).bind (fun (h29 : mm_H) =>
if mm_kd (mh_n h29) = (0, 4) then
(some (ms_N h29 1)).bind (fun (h32 : mm_H) =>
(gX4_init ((mh_n h29)) 10 h32).bind (fun (h33 : mm_H) =>
if o < mh_n h33 then
(some (ms_R h33 o 8 (some ((mh_n h29))))).bind (fun (h35 : mm_H) =>
if mm_kd (mh_n h35) = (0, 4) then
(some (ms_N h35 1)).bind (fun (h38 : mm_H) =>
(gX4_init ((mh_n h35)) 10 h38).bind (fun (h39 : mm_H) =>
if o < mh_n h39 then
(some (ms_R h39 o 9 (some ((mh_n h35))))).bind (fun (h41 : mm_H) =>
if mm_kd (mh_n h41) = (0, 4) then
(some (ms_N h41 1)).bind (fun (h44 : mm_H) =>
(gX4_init ((mh_n h41)) 10 h44).bind (fun (h45 : mm_H) =>
if o < mh_n h45 then
(some (ms_R h45 o 10 (some ((mh_n h41))))).bind (fun (h47 : mm_H) =>
if mm_kd (mh_n h47) = (0, 4) then
(some (ms_N h47 1)).bind (fun (h50 : mm_H) =>
(gX4_init ((mh_n h47)) 10 h50).bind (fun (h51 : mm_H) =>
if o < mh_n h51 then
(some (ms_R h51 o 11 (some ((mh_n h47))))).bind (fun (h53 : mm_H) =>
if mm_kd (mh_n h53) = (0, 4) then
(some (ms_N h53 1)).bind (fun (h56 : mm_H) =>
(gX4_init ((mh_n h53)) 200 h56).bind (fun (h57 : mm_H) =>
if o < mh_n h57 then
(some (ms_R h57 o 12 (some ((mh_n h53))))).bind (fun (h59 : mm_H) =>
if mm_kd (mh_n h59) = (0, 4) then
(some (ms_N h59 1)).bind (fun (h62 : mm_H) =>
(gX4_init ((mh_n h59)) 8 h62).bind (fun (h63 : mm_H) =>
if o < mh_n h63 then
(some (ms_R h63 o 13 (some ((mh_n h59))))).bind (fun (h65 : mm_H) =>
if mm_kd (mh_n h65) = (0, 4) then
(some (ms_N h65 1)).bind (fun (h68 : mm_H) =>
(gX4_init ((mh_n h65)) 8 h68).bind (fun (h69 : mm_H) =>
if o < mh_n h69 then
(some (ms_R h69 o 14 (some ((mh_n h65))))).bind (fun (h71 : mm_H) =>
if mm_kd (mh_n h71) = (0, 4) then
(some (ms_N h71 1)).bind (fun (h74 : mm_H) =>
(gX4_init ((mh_n h71)) 8 h74).bind (fun (h75 : mm_H) =>
if o < mh_n h75 then
(some (ms_R h75 o 15 (some ((mh_n h71))))).bind (fun (h77 : mm_H) =>
if mm_kd (mh_n h77) = (0, 4) then
(some (ms_N h77 1)).bind (fun (h80 : mm_H) =>
(gX4_init ((mh_n h77)) 8 h80).bind (fun (h81 : mm_H) =>
if o < mh_n h81 then
(some (ms_R h81 o 16 (some ((mh_n h77))))).bind (fun (h83 : mm_H) =>
if mm_kd (mh_n h83) = (0, 4) then
(some (ms_N h83 1)).bind (fun (h86 : mm_H) =>
(gX4_init ((mh_n h83)) 8 h86).bind (fun (h87 : mm_H) =>
if o < mh_n h87 then
(some (ms_R h87 o 17 (some ((mh_n h83))))).bind (fun (h89 : mm_H) =>
some h89) else none)) else none) else none)) else none) else none)) else none) else none)) else none) else none)) else none) else none)) else none) else none)) else none) else none)) else none) else none)) else none) else none)) else none) else none)) else none) else none)) else none) else none)) else none) else none)) else none) else none)) else none
theorem rX7_init (o : Nat) (h : mm_H) (ho : mm_kd o = (0, 7)) : mm_R2 mm_K mm_K mX7_init [.ref o] h (gX7_init o h) lf_v := by
  refine mm_body (L := [some (.ref o)]) rfl (by decide +kernel) (Nat.le_of_ble_eq_true rfl) rfl ?_
  unfold gX7_init
  refine me_aload_n (pc' := 1) (i := 0) dX7_init_0 rfl rfl rfl ?_
  refine me_objInit (pc' := 4) dX7_init_1 rfl ljX7_3 ⟨Nat.le_of_ble_eq_true rfl, Nat.le_of_ble_eq_true rfl⟩ (Nat.le_of_ble_eq_true rfl) ?_
  refine me_aload_n (pc' := 5) (i := 0) dX7_init_4 rfl rfl rfl ?_
  refine mm_guard (fun c1 => ?_)
  refine me_new (F' := mm_K) (pc' := 8) (N := 1) (ci := 4) dX7_init_5 rfl nkX7_9 rfl c1 (fun z => z) mm_K_N ?_
  refine mm_bnd (ms_N h 1) (fun _ => [some (.ref o)]) (fun _ => [.ref (mh_n h), .ref o]) (fun h2 => h2) (fun h2 => ?_)
  refine me_dup (pc' := 9) dX7_init_8 rfl rfl ?_
  refine me_bipush (pc' := 11) (v := 20) dX7_init_9 rfl kc_b20 ?_
  refine me_callI (As := [.int 20]) (st := [.ref (mh_n h), .ref o]) (F' := mm_K) (G' := mm_K) (F'' := mm_K) (pc' := 14) dX7_init_11 rfl mfX4_init rfl lkX7_11 ⟨Nat.le_of_ble_eq_true rfl, Nat.le_of_ble_eq_true rfl⟩ (Nat.le_of_ble_eq_true rfl) (fun z => z) (rX4_init ((mh_n h)) 20 h2 c1) (fun h3 e4 => Or.inl ⟨_, _, rfl, fun z => z, ?_⟩)
  show mm_E2 _ _ _ _ _ [.ref (mh_n h), .ref o] h3 _ _
  refine mm_guard (fun c6 => ?_)
  refine me_putF (F' := mm_K) (pc' := 17) dX7_init_14 rfl foX7_14 (mm_ks ho) (fun _ => c6) rfl rfl pfX7_2 (fun z => z) ?_
  refine mm_bnd (ms_R h3 o 2 (some ((mh_n h)))) (fun _ => [some (.ref o)]) (fun _ => []) (fun h5 => h5) (fun h5 => ?_)
  refine me_aload_n (pc' := 18) (i := 0) dX7_init_17 rfl rfl rfl ?_
  refine mm_guard (fun c7 => ?_)
  refine me_new (F' := mm_K) (pc' := 21) (N := 1) (ci := 4) dX7_init_18 rfl nkX7_9 rfl c7 (fun z => z) mm_K_N ?_
  refine mm_bnd (ms_N h5 1) (fun _ => [some (.ref o)]) (fun _ => [.ref (mh_n h5), .ref o]) (fun h8 => h8) (fun h8 => ?_)
  refine me_dup (pc' := 22) dX7_init_21 rfl rfl ?_
  refine me_bipush (pc' := 24) (v := 20) dX7_init_22 rfl kc_b20 ?_
  refine me_callI (As := [.int 20]) (st := [.ref (mh_n h5), .ref o]) (F' := mm_K) (G' := mm_K) (F'' := mm_K) (pc' := 27) dX7_init_24 rfl mfX4_init rfl lkX7_11 ⟨Nat.le_of_ble_eq_true rfl, Nat.le_of_ble_eq_true rfl⟩ (Nat.le_of_ble_eq_true rfl) (fun z => z) (rX4_init ((mh_n h5)) 20 h8 c7) (fun h9 e10 => Or.inl ⟨_, _, rfl, fun z => z, ?_⟩)
  show mm_E2 _ _ _ _ _ [.ref (mh_n h5), .ref o] h9 _ _
  refine mm_guard (fun c12 => ?_)
  refine me_putF (F' := mm_K) (pc' := 30) dX7_init_27 rfl foX7_20 (mm_ks ho) (fun _ => c12) rfl rfl pfX7_3 (fun z => z) ?_
  refine mm_bnd (ms_R h9 o 3 (some ((mh_n h5)))) (fun _ => [some (.ref o)]) (fun _ => []) (fun h11 => h11) (fun h11 => ?_)
  refine me_aload_n (pc' := 31) (i := 0) dX7_init_30 rfl rfl rfl ?_
  refine mm_guard (fun c13 => ?_)
  refine me_new (F' := mm_K) (pc' := 34) (N := 1) (ci := 4) dX7_init_31 rfl nkX7_9 rfl c13 (fun z => z) mm_K_N ?_
  refine mm_bnd (ms_N h11 1) (fun _ => [some (.ref o)]) (fun _ => [.ref (mh_n h11), .ref o]) (fun h14 => h14) (fun h14 => ?_)
  refine me_dup (pc' := 35) dX7_init_34 rfl rfl ?_
  refine me_bipush (pc' := 37) (v := 20) dX7_init_35 rfl kc_b20 ?_
  refine me_callI (As := [.int 20]) (st := [.ref (mh_n h11), .ref o]) (F' := mm_K) (G' := mm_K) (F'' := mm_K) (pc' := 40) dX7_init_37 rfl mfX4_init rfl lkX7_11 ⟨Nat.le_of_ble_eq_true rfl, Nat.le_of_ble_eq_true rfl⟩ (Nat.le_of_ble_eq_true rfl) (fun z => z) (rX4_init ((mh_n h11)) 20 h14 c13) (fun h15 e16 => Or.inl ⟨_, _, rfl, fun z => z, ?_⟩)
  show mm_E2 _ _ _ _ _ [.ref (mh_n h11), .ref o] h15 _ _
  refine mm_guard (fun c18 => ?_)
  refine me_putF (F' := mm_K) (pc' := 43) dX7_init_40 rfl foX7_23 (mm_ks ho) (fun _ => c18) rfl rfl pfX7_4 (fun z => z) ?_
  refine mm_bnd (ms_R h15 o 4 (some ((mh_n h11)))) (fun _ => [some (.ref o)]) (fun _ => []) (fun h17 => h17) (fun h17 => ?_)
  refine me_aload_n (pc' := 44) (i := 0) dX7_init_43 rfl rfl rfl ?_
  refine mm_guard (fun c19 => ?_)
  refine me_new (F' := mm_K) (pc' := 47) (N := 1) (ci := 4) dX7_init_44 rfl nkX7_9 rfl c19 (fun z => z) mm_K_N ?_
  refine mm_bnd (ms_N h17 1) (fun _ => [some (.ref o)]) (fun _ => [.ref (mh_n h17), .ref o]) (fun h20 => h20) (fun h20 => ?_)
  refine me_dup (pc' := 48) dX7_init_47 rfl rfl ?_
  refine me_bipush (pc' := 50) (v := 20) dX7_init_48 rfl kc_b20 ?_
  refine me_callI (As := [.int 20]) (st := [.ref (mh_n h17), .ref o]) (F' := mm_K) (G' := mm_K) (F'' := mm_K) (pc' := 53) dX7_init_50 rfl mfX4_init rfl lkX7_11 ⟨Nat.le_of_ble_eq_true rfl, Nat.le_of_ble_eq_true rfl⟩ (Nat.le_of_ble_eq_true rfl) (fun z => z) (rX4_init ((mh_n h17)) 20 h20 c19) (fun h21 e22 => Or.inl ⟨_, _, rfl, fun z => z, ?_⟩)
  show mm_E2 _ _ _ _ _ [.ref (mh_n h17), .ref o] h21 _ _
  refine mm_guard (fun c24 => ?_)
  refine me_putF (F' := mm_K) (pc' := 56) dX7_init_53 rfl foX7_26 (mm_ks ho) (fun _ => c24) rfl rfl pfX7_5 (fun z => z) ?_
  refine mm_bnd (ms_R h21 o 5 (some ((mh_n h17)))) (fun _ => [some (.ref o)]) (fun _ => []) (fun h23 => h23) (fun h23 => ?_)
  refine me_aload_n (pc' := 57) (i := 0) dX7_init_56 rfl rfl rfl ?_
  refine mm_guard (fun c25 => ?_)
  refine me_new (F' := mm_K) (pc' := 60) (N := 1) (ci := 4) dX7_init_57 rfl nkX7_9 rfl c25 (fun z => z) mm_K_N ?_
  refine mm_bnd (ms_N h23 1) (fun _ => [some (.ref o)]) (fun _ => [.ref (mh_n h23), .ref o]) (fun h26 => h26) (fun h26 => ?_)
  refine me_dup (pc' := 61) dX7_init_60 rfl rfl ?_
  refine me_bipush (pc' := 63) (v := 20) dX7_init_61 rfl kc_b20 ?_
  refine me_callI (As := [.int 20]) (st := [.ref (mh_n h23), .ref o]) (F' := mm_K) (G' := mm_K) (F'' := mm_K) (pc' := 66) dX7_init_63 rfl mfX4_init rfl lkX7_11 ⟨Nat.le_of_ble_eq_true rfl, Nat.le_of_ble_eq_true rfl⟩ (Nat.le_of_ble_eq_true rfl) (fun z => z) (rX4_init ((mh_n h23)) 20 h26 c25) (fun h27 e28 => Or.inl ⟨_, _, rfl, fun z => z, ?_⟩)
  show mm_E2 _ _ _ _ _ [.ref (mh_n h23), .ref o] h27 _ _
  refine mm_guard (fun c30 => ?_)
  refine me_putF (F' := mm_K) (pc' := 69) dX7_init_66 rfl foX7_29 (mm_ks ho) (fun _ => c30) rfl rfl pfX7_6 (fun z => z) ?_
  refine mm_bnd (ms_R h27 o 6 (some ((mh_n h23)))) (fun _ => [some (.ref o)]) (fun _ => []) (fun h29 => h29) (fun h29 => ?_)
  refine me_aload_n (pc' := 70) (i := 0) dX7_init_69 rfl rfl rfl ?_
  refine mm_guard (fun c31 => ?_)
  refine me_new (F' := mm_K) (pc' := 73) (N := 1) (ci := 4) dX7_init_70 rfl nkX7_9 rfl c31 (fun z => z) mm_K_N ?_
  refine mm_bnd (ms_N h29 1) (fun _ => [some (.ref o)]) (fun _ => [.ref (mh_n h29), .ref o]) (fun h32 => h32) (fun h32 => ?_)
  refine me_dup (pc' := 74) dX7_init_73 rfl rfl ?_
  refine me_bipush (pc' := 76) (v := 10) dX7_init_74 rfl kc_b10 ?_
  refine me_callI (As := [.int 10]) (st := [.ref (mh_n h29), .ref o]) (F' := mm_K) (G' := mm_K) (F'' := mm_K) (pc' := 79) dX7_init_76 rfl mfX4_init rfl lkX7_11 ⟨Nat.le_of_ble_eq_true rfl, Nat.le_of_ble_eq_true rfl⟩ (Nat.le_of_ble_eq_true rfl) (fun z => z) (rX4_init ((mh_n h29)) 10 h32 c31) (fun h33 e34 => Or.inl ⟨_, _, rfl, fun z => z, ?_⟩)
  show mm_E2 _ _ _ _ _ [.ref (mh_n h29), .ref o] h33 _ _
  refine mm_guard (fun c36 => ?_)
  refine me_putF (F' := mm_K) (pc' := 82) dX7_init_79 rfl foX7_32 (mm_ks ho) (fun _ => c36) rfl rfl pfX7_8 (fun z => z) ?_
  refine mm_bnd (ms_R h33 o 8 (some ((mh_n h29)))) (fun _ => [some (.ref o)]) (fun _ => []) (fun h35 => h35) (fun h35 => ?_)
  refine me_aload_n (pc' := 83) (i := 0) dX7_init_82 rfl rfl rfl ?_
  refine mm_guard (fun c37 => ?_)
  refine me_new (F' := mm_K) (pc' := 86) (N := 1) (ci := 4) dX7_init_83 rfl nkX7_9 rfl c37 (fun z => z) mm_K_N ?_
  refine mm_bnd (ms_N h35 1) (fun _ => [some (.ref o)]) (fun _ => [.ref (mh_n h35), .ref o]) (fun h38 => h38) (fun h38 => ?_)
  refine me_dup (pc' := 87) dX7_init_86 rfl rfl ?_
  refine me_bipush (pc' := 89) (v := 10) dX7_init_87 rfl kc_b10 ?_
  refine me_callI (As := [.int 10]) (st := [.ref (mh_n h35), .ref o]) (F' := mm_K) (G' := mm_K) (F'' := mm_K) (pc' := 92) dX7_init_89 rfl mfX4_init rfl lkX7_11 ⟨Nat.le_of_ble_eq_true rfl, Nat.le_of_ble_eq_true rfl⟩ (Nat.le_of_ble_eq_true rfl) (fun z => z) (rX4_init ((mh_n h35)) 10 h38 c37) (fun h39 e40 => Or.inl ⟨_, _, rfl, fun z => z, ?_⟩)
  show mm_E2 _ _ _ _ _ [.ref (mh_n h35), .ref o] h39 _ _
  refine mm_guard (fun c42 => ?_)
  refine me_putF (F' := mm_K) (pc' := 95) dX7_init_92 rfl foX7_35 (mm_ks ho) (fun _ => c42) rfl rfl pfX7_9 (fun z => z) ?_
  refine mm_bnd (ms_R h39 o 9 (some ((mh_n h35)))) (fun _ => [some (.ref o)]) (fun _ => []) (fun h41 => h41) (fun h41 => ?_)
  refine me_aload_n (pc' := 96) (i := 0) dX7_init_95 rfl rfl rfl ?_
  refine mm_guard (fun c43 => ?_)
  refine me_new (F' := mm_K) (pc' := 99) (N := 1) (ci := 4) dX7_init_96 rfl nkX7_9 rfl c43 (fun z => z) mm_K_N ?_
  refine mm_bnd (ms_N h41 1) (fun _ => [some (.ref o)]) (fun _ => [.ref (mh_n h41), .ref o]) (fun h44 => h44) (fun h44 => ?_)
  refine me_dup (pc' := 100) dX7_init_99 rfl rfl ?_
  refine me_bipush (pc' := 102) (v := 10) dX7_init_100 rfl kc_b10 ?_
  refine me_callI (As := [.int 10]) (st := [.ref (mh_n h41), .ref o]) (F' := mm_K) (G' := mm_K) (F'' := mm_K) (pc' := 105) dX7_init_102 rfl mfX4_init rfl lkX7_11 ⟨Nat.le_of_ble_eq_true rfl, Nat.le_of_ble_eq_true rfl⟩ (Nat.le_of_ble_eq_true rfl) (fun z => z) (rX4_init ((mh_n h41)) 10 h44 c43) (fun h45 e46 => Or.inl ⟨_, _, rfl, fun z => z, ?_⟩)
  show mm_E2 _ _ _ _ _ [.ref (mh_n h41), .ref o] h45 _ _
  refine mm_guard (fun c48 => ?_)
  refine me_putF (F' := mm_K) (pc' := 108) dX7_init_105 rfl foX7_38 (mm_ks ho) (fun _ => c48) rfl rfl pfX7_10 (fun z => z) ?_
  refine mm_bnd (ms_R h45 o 10 (some ((mh_n h41)))) (fun _ => [some (.ref o)]) (fun _ => []) (fun h47 => h47) (fun h47 => ?_)
  refine me_aload_n (pc' := 109) (i := 0) dX7_init_108 rfl rfl rfl ?_
  refine mm_guard (fun c49 => ?_)
  refine me_new (F' := mm_K) (pc' := 112) (N := 1) (ci := 4) dX7_init_109 rfl nkX7_9 rfl c49 (fun z => z) mm_K_N ?_
  refine mm_bnd (ms_N h47 1) (fun _ => [some (.ref o)]) (fun _ => [.ref (mh_n h47), .ref o]) (fun h50 => h50) (fun h50 => ?_)
  refine me_dup (pc' := 113) dX7_init_112 rfl rfl ?_
  refine me_bipush (pc' := 115) (v := 10) dX7_init_113 rfl kc_b10 ?_
  refine me_callI (As := [.int 10]) (st := [.ref (mh_n h47), .ref o]) (F' := mm_K) (G' := mm_K) (F'' := mm_K) (pc' := 118) dX7_init_115 rfl mfX4_init rfl lkX7_11 ⟨Nat.le_of_ble_eq_true rfl, Nat.le_of_ble_eq_true rfl⟩ (Nat.le_of_ble_eq_true rfl) (fun z => z) (rX4_init ((mh_n h47)) 10 h50 c49) (fun h51 e52 => Or.inl ⟨_, _, rfl, fun z => z, ?_⟩)
  show mm_E2 _ _ _ _ _ [.ref (mh_n h47), .ref o] h51 _ _
  refine mm_guard (fun c54 => ?_)
  refine me_putF (F' := mm_K) (pc' := 121) dX7_init_118 rfl foX7_41 (mm_ks ho) (fun _ => c54) rfl rfl pfX7_11 (fun z => z) ?_
  refine mm_bnd (ms_R h51 o 11 (some ((mh_n h47)))) (fun _ => [some (.ref o)]) (fun _ => []) (fun h53 => h53) (fun h53 => ?_)
  refine me_aload_n (pc' := 122) (i := 0) dX7_init_121 rfl rfl rfl ?_
  refine mm_guard (fun c55 => ?_)
  refine me_new (F' := mm_K) (pc' := 125) (N := 1) (ci := 4) dX7_init_122 rfl nkX7_9 rfl c55 (fun z => z) mm_K_N ?_
  refine mm_bnd (ms_N h53 1) (fun _ => [some (.ref o)]) (fun _ => [.ref (mh_n h53), .ref o]) (fun h56 => h56) (fun h56 => ?_)
  refine me_dup (pc' := 126) dX7_init_125 rfl rfl ?_
  refine me_sipush (pc' := 129) (v := 200) dX7_init_126 rfl kc_s200 ?_
  refine me_callI (As := [.int 200]) (st := [.ref (mh_n h53), .ref o]) (F' := mm_K) (G' := mm_K) (F'' := mm_K) (pc' := 132) dX7_init_129 rfl mfX4_init rfl lkX7_11 ⟨Nat.le_of_ble_eq_true rfl, Nat.le_of_ble_eq_true rfl⟩ (Nat.le_of_ble_eq_true rfl) (fun z => z) (rX4_init ((mh_n h53)) 200 h56 c55) (fun h57 e58 => Or.inl ⟨_, _, rfl, fun z => z, ?_⟩)
  show mm_E2 _ _ _ _ _ [.ref (mh_n h53), .ref o] h57 _ _
  refine mm_guard (fun c60 => ?_)
  refine me_putF (F' := mm_K) (pc' := 135) dX7_init_132 rfl foX7_44 (mm_ks ho) (fun _ => c60) rfl rfl pfX7_12 (fun z => z) ?_
  refine mm_bnd (ms_R h57 o 12 (some ((mh_n h53)))) (fun _ => [some (.ref o)]) (fun _ => []) (fun h59 => h59) (fun h59 => ?_)
  refine me_aload_n (pc' := 136) (i := 0) dX7_init_135 rfl rfl rfl ?_
  refine mm_guard (fun c61 => ?_)
  refine me_new (F' := mm_K) (pc' := 139) (N := 1) (ci := 4) dX7_init_136 rfl nkX7_9 rfl c61 (fun z => z) mm_K_N ?_
  refine mm_bnd (ms_N h59 1) (fun _ => [some (.ref o)]) (fun _ => [.ref (mh_n h59), .ref o]) (fun h62 => h62) (fun h62 => ?_)
  refine me_dup (pc' := 140) dX7_init_139 rfl rfl ?_
  refine me_bipush (pc' := 142) (v := 8) dX7_init_140 rfl kc_b8 ?_
  refine me_callI (As := [.int 8]) (st := [.ref (mh_n h59), .ref o]) (F' := mm_K) (G' := mm_K) (F'' := mm_K) (pc' := 145) dX7_init_142 rfl mfX4_init rfl lkX7_11 ⟨Nat.le_of_ble_eq_true rfl, Nat.le_of_ble_eq_true rfl⟩ (Nat.le_of_ble_eq_true rfl) (fun z => z) (rX4_init ((mh_n h59)) 8 h62 c61) (fun h63 e64 => Or.inl ⟨_, _, rfl, fun z => z, ?_⟩)
  show mm_E2 _ _ _ _ _ [.ref (mh_n h59), .ref o] h63 _ _
  refine mm_guard (fun c66 => ?_)
  refine me_putF (F' := mm_K) (pc' := 148) dX7_init_145 rfl foX7_47 (mm_ks ho) (fun _ => c66) rfl rfl pfX7_13 (fun z => z) ?_
  refine mm_bnd (ms_R h63 o 13 (some ((mh_n h59)))) (fun _ => [some (.ref o)]) (fun _ => []) (fun h65 => h65) (fun h65 => ?_)
  refine me_aload_n (pc' := 149) (i := 0) dX7_init_148 rfl rfl rfl ?_
  refine mm_guard (fun c67 => ?_)
  refine me_new (F' := mm_K) (pc' := 152) (N := 1) (ci := 4) dX7_init_149 rfl nkX7_9 rfl c67 (fun z => z) mm_K_N ?_
  refine mm_bnd (ms_N h65 1) (fun _ => [some (.ref o)]) (fun _ => [.ref (mh_n h65), .ref o]) (fun h68 => h68) (fun h68 => ?_)
  refine me_dup (pc' := 153) dX7_init_152 rfl rfl ?_
  refine me_bipush (pc' := 155) (v := 8) dX7_init_153 rfl kc_b8 ?_
  refine me_callI (As := [.int 8]) (st := [.ref (mh_n h65), .ref o]) (F' := mm_K) (G' := mm_K) (F'' := mm_K) (pc' := 158) dX7_init_155 rfl mfX4_init rfl lkX7_11 ⟨Nat.le_of_ble_eq_true rfl, Nat.le_of_ble_eq_true rfl⟩ (Nat.le_of_ble_eq_true rfl) (fun z => z) (rX4_init ((mh_n h65)) 8 h68 c67) (fun h69 e70 => Or.inl ⟨_, _, rfl, fun z => z, ?_⟩)
  show mm_E2 _ _ _ _ _ [.ref (mh_n h65), .ref o] h69 _ _
  refine mm_guard (fun c72 => ?_)
  refine me_putF (F' := mm_K) (pc' := 161) dX7_init_158 rfl foX7_50 (mm_ks ho) (fun _ => c72) rfl rfl pfX7_14 (fun z => z) ?_
  refine mm_bnd (ms_R h69 o 14 (some ((mh_n h65)))) (fun _ => [some (.ref o)]) (fun _ => []) (fun h71 => h71) (fun h71 => ?_)
  refine me_aload_n (pc' := 162) (i := 0) dX7_init_161 rfl rfl rfl ?_
  refine mm_guard (fun c73 => ?_)
  refine me_new (F' := mm_K) (pc' := 165) (N := 1) (ci := 4) dX7_init_162 rfl nkX7_9 rfl c73 (fun z => z) mm_K_N ?_
  refine mm_bnd (ms_N h71 1) (fun _ => [some (.ref o)]) (fun _ => [.ref (mh_n h71), .ref o]) (fun h74 => h74) (fun h74 => ?_)
  refine me_dup (pc' := 166) dX7_init_165 rfl rfl ?_
  refine me_bipush (pc' := 168) (v := 8) dX7_init_166 rfl kc_b8 ?_
  refine me_callI (As := [.int 8]) (st := [.ref (mh_n h71), .ref o]) (F' := mm_K) (G' := mm_K) (F'' := mm_K) (pc' := 171) dX7_init_168 rfl mfX4_init rfl lkX7_11 ⟨Nat.le_of_ble_eq_true rfl, Nat.le_of_ble_eq_true rfl⟩ (Nat.le_of_ble_eq_true rfl) (fun z => z) (rX4_init ((mh_n h71)) 8 h74 c73) (fun h75 e76 => Or.inl ⟨_, _, rfl, fun z => z, ?_⟩)
  show mm_E2 _ _ _ _ _ [.ref (mh_n h71), .ref o] h75 _ _
  refine mm_guard (fun c78 => ?_)
  refine me_putF (F' := mm_K) (pc' := 174) dX7_init_171 rfl foX7_53 (mm_ks ho) (fun _ => c78) rfl rfl pfX7_15 (fun z => z) ?_
  refine mm_bnd (ms_R h75 o 15 (some ((mh_n h71)))) (fun _ => [some (.ref o)]) (fun _ => []) (fun h77 => h77) (fun h77 => ?_)
  refine me_aload_n (pc' := 175) (i := 0) dX7_init_174 rfl rfl rfl ?_
  refine mm_guard (fun c79 => ?_)
  refine me_new (F' := mm_K) (pc' := 178) (N := 1) (ci := 4) dX7_init_175 rfl nkX7_9 rfl c79 (fun z => z) mm_K_N ?_
  refine mm_bnd (ms_N h77 1) (fun _ => [some (.ref o)]) (fun _ => [.ref (mh_n h77), .ref o]) (fun h80 => h80) (fun h80 => ?_)
  refine me_dup (pc' := 179) dX7_init_178 rfl rfl ?_
  refine me_bipush (pc' := 181) (v := 8) dX7_init_179 rfl kc_b8 ?_
  refine me_callI (As := [.int 8]) (st := [.ref (mh_n h77), .ref o]) (F' := mm_K) (G' := mm_K) (F'' := mm_K) (pc' := 184) dX7_init_181 rfl mfX4_init rfl lkX7_11 ⟨Nat.le_of_ble_eq_true rfl, Nat.le_of_ble_eq_true rfl⟩ (Nat.le_of_ble_eq_true rfl) (fun z => z) (rX4_init ((mh_n h77)) 8 h80 c79) (fun h81 e82 => Or.inl ⟨_, _, rfl, fun z => z, ?_⟩)
  show mm_E2 _ _ _ _ _ [.ref (mh_n h77), .ref o] h81 _ _
  refine mm_guard (fun c84 => ?_)
  refine me_putF (F' := mm_K) (pc' := 187) dX7_init_184 rfl foX7_56 (mm_ks ho) (fun _ => c84) rfl rfl pfX7_16 (fun z => z) ?_
  refine mm_bnd (ms_R h81 o 16 (some ((mh_n h77)))) (fun _ => [some (.ref o)]) (fun _ => []) (fun h83 => h83) (fun h83 => ?_)
  refine me_aload_n (pc' := 188) (i := 0) dX7_init_187 rfl rfl rfl ?_
  refine mm_guard (fun c85 => ?_)
  refine me_new (F' := mm_K) (pc' := 191) (N := 1) (ci := 4) dX7_init_188 rfl nkX7_9 rfl c85 (fun z => z) mm_K_N ?_
  refine mm_bnd (ms_N h83 1) (fun _ => [some (.ref o)]) (fun _ => [.ref (mh_n h83), .ref o]) (fun h86 => h86) (fun h86 => ?_)
  refine me_dup (pc' := 192) dX7_init_191 rfl rfl ?_
  refine me_bipush (pc' := 194) (v := 8) dX7_init_192 rfl kc_b8 ?_
  refine me_callI (As := [.int 8]) (st := [.ref (mh_n h83), .ref o]) (F' := mm_K) (G' := mm_K) (F'' := mm_K) (pc' := 197) dX7_init_194 rfl mfX4_init rfl lkX7_11 ⟨Nat.le_of_ble_eq_true rfl, Nat.le_of_ble_eq_true rfl⟩ (Nat.le_of_ble_eq_true rfl) (fun z => z) (rX4_init ((mh_n h83)) 8 h86 c85) (fun h87 e88 => Or.inl ⟨_, _, rfl, fun z => z, ?_⟩)
  show mm_E2 _ _ _ _ _ [.ref (mh_n h83), .ref o] h87 _ _
  refine mm_guard (fun c90 => ?_)
  refine me_putF (F' := mm_K) (pc' := 200) dX7_init_197 rfl foX7_59 (mm_ks ho) (fun _ => c90) rfl rfl pfX7_17 (fun z => z) ?_
  refine mm_bnd (ms_R h87 o 17 (some ((mh_n h83)))) (fun _ => [some (.ref o)]) (fun _ => []) (fun h89 => h89) (fun h89 => ?_)
  exact me_vret dX7_init_200 rfl (fun z => z) rfl
def gX6_init_L30 (o : Nat) : Nat → Int32 → mm_H → Option mm_H
  | 0, _, _ => none
  | n + 1, w11, h12 =>
    if o < mh_n h12 then
    if mh_R h12 o 0 = some ((o + 1)) then
    if (o + 1) < mh_n h12 then
    if w11 < (nI (mm_cap o)) then
    if o < mh_n h12 then
    if mh_R h12 o 0 = some ((o + 1)) then
    if mm_kd (mh_n h12) = (0, 7) then
    (some (ms_N h12 18)).bind (fun (h20 : mm_H) =>
    (gX7_init ((mh_n h12)) h20).bind (fun (h21 : mm_H) =>
    if mm_ibd w11 (mm_cap o) = true then
    if (o + 1) < mh_n h21 then
    if (mh_n h12) < mh_n h21 then
    (some (ms_R h21 (o + 1) (Int32.toNatClampNeg (w11)) (some ((mh_n h12))))).bind (fun (h24 : mm_H) =>
    (some (w11 + 1)).bind (fun (x27 : Int32) =>
    gX6_init_L30 o n x27 h24)) else none else none else none)) else none else none else none
    else
    some h12 else none else none else none
def gX6_init (o : Nat) (p0 : Int32) (h : mm_H) : Option mm_H :=
if mm_kd (mh_n h) = (6, (Int32.toNatClampNeg ((mm_max 0 p0)))) ∧ ¬ ((mm_max 0 p0) : Int32) < 0 ∧ (Int32.toNatClampNeg ((mm_max 0 p0))) ≤ 60000 then
(some (ms_N h (Int32.toNatClampNeg ((mm_max 0 p0))))).bind (fun (h2 : mm_H) =>
if o < mh_n h2 then
(some (ms_R h2 o 0 (some ((mh_n h))))).bind (fun (h3 : mm_H) =>
if mm_kd (mh_n h3) = (0, 4) then
(some (ms_N h3 1)).bind (fun (h6 : mm_H) =>
(gX4_init ((mh_n h3)) p0 h6).bind (fun (h7 : mm_H) =>
if o < mh_n h7 then
(some (ms_R h7 o 1 (some ((mh_n h3))))).bind (fun (h9 : mm_H) =>
gX6_init_L30 o mm_F 0 h9) else none)) else none) else none) else none
theorem rX6_init_L30 (o : Nat)    (ho : mm_kd o = (0, 6)) : ∀ (n : Nat) (w11 : Int32) (h12 : mm_H), mm_E2 mm_K mm_K mX6_init 30 [some (.ref o), none, some (.int w11)] [] h12 (gX6_init_L30 o  n w11 h12) lf_v := by
  intro n
  induction n with
  | zero =>
    intro w11 h12
    exact mm_none
  | succ n ih =>
    intro w11 h12
    rw [gX6_init_L30]
    refine me_iload_n (pc' := 31) (i := 2) dX6_init_30 rfl rfl rfl ?_
    refine me_aload_n (pc' := 32) (i := 0) dX6_init_31 rfl rfl rfl ?_
    refine mm_guard (fun c13 => ?_)
    refine mm_guard (fun c14 => ?_)
    refine me_getR (pc' := 35) (q' := (o + 1)) dX6_init_32 rfl fkX6_15 (mm_ks ho) (fun _ => c13) rfl (fun _ => c14) ?_
    refine mm_guard (fun c15 => ?_)
    refine me_alen (pc' := 36) (v := (nI (mm_cap o))) dX6_init_35 rfl (mm_ks (kdX6_0 ho)) (fun _ => c15) rfl ?_
    refine me_icmp_ge (pc' := 39) (tgt := 58) dX6_init_36 (by decide) rfl (fun c16 => ?_) (fun c16 => ?_)
    · exact me_vret dX6_init_58 rfl (fun z => z) rfl
    · refine me_aload_n (pc' := 40) (i := 0) dX6_init_39 rfl rfl rfl ?_
      refine mm_guard (fun c17 => ?_)
      refine mm_guard (fun c18 => ?_)
      refine me_getR (pc' := 43) (q' := (o + 1)) dX6_init_40 rfl fkX6_15 (mm_ks ho) (fun _ => c17) rfl (fun _ => c18) ?_
      refine me_iload_n (pc' := 44) (i := 2) dX6_init_43 rfl rfl rfl ?_
      refine mm_guard (fun c19 => ?_)
      refine me_new (F' := mm_K) (pc' := 47) (N := 18) (ci := 7) dX6_init_44 rfl nkX6_13 rfl c19 (fun z => z) mm_K_N ?_
      refine mm_bnd (ms_N h12 18) (fun _ => [some (.ref o), none, some (.int w11)]) (fun _ => [.ref (mh_n h12), .int w11, .ref (o + 1)]) (fun h20 => h20) (fun h20 => ?_)
      refine me_dup (pc' := 48) dX6_init_47 rfl rfl ?_
      refine me_callI (As := []) (st := [.ref (mh_n h12), .int w11, .ref (o + 1)]) (F' := mm_K) (G' := mm_K) (F'' := mm_K) (pc' := 51) dX6_init_48 rfl mfX7_init rfl lkX6_30 ⟨Nat.le_of_ble_eq_true rfl, Nat.le_of_ble_eq_true rfl⟩ (Nat.le_of_ble_eq_true rfl) (fun z => z) (rX7_init ((mh_n h12)) h20 c19) (fun h21 e22 => Or.inl ⟨_, _, rfl, fun z => z, ?_⟩)
      show mm_E2 _ _ _ _ _ [.ref (mh_n h12), .int w11, .ref (o + 1)] h21 _ _
      refine mm_guard (fun c23 => ?_)
      refine mm_guard (fun c25 => ?_)
      refine mm_guard (fun c26 => ?_)
      refine me_aast (F' := mm_K) (pc' := 52) dX6_init_51 rfl (mm_ks (kdX6_0 ho)) (mm_ks c19) (fun _ => c25) (fun _ => c26) (mm_ibd_of c23) (fun z => z) ?_
      refine mm_bnd (ms_R h21 (o + 1) (Int32.toNatClampNeg (w11)) (some ((mh_n h12)))) (fun _ => [some (.ref o), none, some (.int w11)]) (fun _ => []) (fun h24 => h24) (fun h24 => ?_)
      refine me_iinc (pc' := 55) (i := 2) (x := w11) (y := w11 + 1) (L' := [some (.ref o), none, some (.int (w11 + 1))]) dX6_init_52 rfl (Nat.le_of_ble_eq_true rfl) (Nat.le_of_ble_eq_true rfl) rfl (kc_plus kc_i1) rfl ?_
      refine mm_bnd (w11 + 1) (fun x27 => [some (.ref o), none, some (.int x27)]) (fun _ => []) (fun _ => h24) (fun x27 => ?_)
      refine me_goto (tgt := 30) dX6_init_55 (by decide) ?_
      exact ih x27 h24
theorem rX6_init (o : Nat) (p0 : Int32) (h : mm_H) (ho : mm_kd o = (0, 6)) : mm_R2 mm_K mm_K mX6_init [.ref o, .int p0] h (gX6_init o p0 h) lf_v := by
  refine mm_body (L := [some (.ref o), some (.int p0), none]) rfl (by decide +kernel) (Nat.le_of_ble_eq_true rfl) rfl ?_
  unfold gX6_init
  refine me_aload_n (pc' := 1) (i := 0) dX6_init_0 rfl rfl rfl ?_
  refine me_objInit (pc' := 4) dX6_init_1 rfl ljX6_1 ⟨Nat.le_of_ble_eq_true rfl, Nat.le_of_ble_eq_true rfl⟩ (Nat.le_of_ble_eq_true rfl) ?_
  refine me_aload_n (pc' := 5) (i := 0) dX6_init_4 rfl rfl rfl ?_
  refine me_iconst (pc' := 6) (v := 0) dX6_init_5 rfl kc_i0 ?_
  refine me_iload_n (pc' := 7) (i := 1) dX6_init_6 rfl rfl rfl ?_
  refine me_mmax (pc' := 10) dX6_init_7 rfl ljX6_7 ⟨Nat.le_of_ble_eq_true rfl, Nat.le_of_ble_eq_true rfl⟩ (Nat.le_of_ble_eq_true rfl) ?_
  show mm_E2 _ _ _ _ _ [.int (mm_max 0 p0), .ref o] _ _ _
  refine mm_guard (fun c1 => ?_)
  refine me_anew (F' := mm_K) (pc' := 13) (N := (Int32.toNatClampNeg ((mm_max 0 p0)))) dX6_init_10 rfl alX6_13 c1.1 c1.2.1 rfl c1.2.2 (fun z => z) mm_K_N ?_
  refine mm_bnd (ms_N h (Int32.toNatClampNeg ((mm_max 0 p0)))) (fun _ => [some (.ref o), some (.int p0), none]) (fun _ => [.ref (mh_n h), .ref o]) (fun h2 => h2) (fun h2 => ?_)
  refine mm_guard (fun c4 => ?_)
  refine me_putF (F' := mm_K) (pc' := 16) dX6_init_13 rfl foX6_15 (mm_ks ho) (fun _ => c4) rfl rfl pfX6_0 (fun z => z) ?_
  refine mm_bnd (ms_R h2 o 0 (some ((mh_n h)))) (fun _ => [some (.ref o), some (.int p0), none]) (fun _ => []) (fun h3 => h3) (fun h3 => ?_)
  refine me_aload_n (pc' := 17) (i := 0) dX6_init_16 rfl rfl rfl ?_
  refine mm_guard (fun c5 => ?_)
  refine me_new (F' := mm_K) (pc' := 20) (N := 1) (ci := 4) dX6_init_17 rfl nkX6_21 rfl c5 (fun z => z) mm_K_N ?_
  refine mm_bnd (ms_N h3 1) (fun _ => [some (.ref o), some (.int p0), none]) (fun _ => [.ref (mh_n h3), .ref o]) (fun h6 => h6) (fun h6 => ?_)
  refine me_dup (pc' := 21) dX6_init_20 rfl rfl ?_
  refine me_iload_n (pc' := 22) (i := 1) dX6_init_21 rfl rfl rfl ?_
  refine me_callI (As := [.int p0]) (st := [.ref (mh_n h3), .ref o]) (F' := mm_K) (G' := mm_K) (F'' := mm_K) (pc' := 25) dX6_init_22 rfl mfX4_init rfl lkX6_23 ⟨Nat.le_of_ble_eq_true rfl, Nat.le_of_ble_eq_true rfl⟩ (Nat.le_of_ble_eq_true rfl) (fun z => z) (rX4_init ((mh_n h3)) p0 h6 c5) (fun h7 e8 => Or.inl ⟨_, _, rfl, fun z => z, ?_⟩)
  show mm_E2 _ _ _ _ _ [.ref (mh_n h3), .ref o] h7 _ _
  refine mm_guard (fun c10 => ?_)
  refine me_putF (F' := mm_K) (pc' := 28) dX6_init_25 rfl foX6_26 (mm_ks ho) (fun _ => c10) rfl rfl pfX6_1 (fun z => z) ?_
  refine mm_bnd (ms_R h7 o 1 (some ((mh_n h3)))) (fun _ => [some (.ref o), some (.int p0), none]) (fun _ => []) (fun h9 => h9) (fun h9 => ?_)
  refine me_iconst (pc' := 29) (v := 0) dX6_init_28 rfl kc_i0 ?_
  refine me_istore_n (pc' := 30) (i := 2) (L' := [some (.ref o), some (.int p0), some (.int 0)]) dX6_init_29 rfl rfl (Nat.le_of_ble_eq_true rfl) (Nat.le_of_ble_eq_true rfl) rfl ?_
  exact mm_maskB [true, false, true] (rX6_init_L30 o ho mm_F 0 h9)
def gX2_init (h : mm_H) : Option mm_H :=
if mm_kd (mh_n h) = (0, 6) then
(some (ms_N h 2)).bind (fun (h2 : mm_H) =>
(gX6_init ((mh_n h)) 6 h2).bind (fun (h3 : mm_H) =>
if 90 < mh_n h3 then
(some (ms_R h3 90 0 (some ((mh_n h))))).bind (fun (h5 : mm_H) =>
some h5) else none)) else none
theorem rX2_init (h : mm_H) : mm_R2 mm_K mm_K mX2_init [.ref 90] h (gX2_init h) lf_v := by
  refine mm_body (L := [some (.ref 90)]) rfl (by decide +kernel) (Nat.le_of_ble_eq_true rfl) rfl ?_
  unfold gX2_init
  refine me_aload_n (pc' := 1) (i := 0) dX2_init_0 rfl rfl rfl ?_
  refine me_objInit (pc' := 4) dX2_init_1 rfl ljX2_3 ⟨Nat.le_of_ble_eq_true rfl, Nat.le_of_ble_eq_true rfl⟩ (Nat.le_of_ble_eq_true rfl) ?_
  refine me_aload_n (pc' := 5) (i := 0) dX2_init_4 rfl rfl rfl ?_
  refine mm_guard (fun c1 => ?_)
  refine me_new (F' := mm_K) (pc' := 8) (N := 2) (ci := 6) dX2_init_5 rfl nkX2_9 rfl c1 (fun z => z) mm_K_N ?_
  refine mm_bnd (ms_N h 2) (fun _ => [some (.ref 90)]) (fun _ => [.ref (mh_n h), .ref 90]) (fun h2 => h2) (fun h2 => ?_)
  refine me_dup (pc' := 9) dX2_init_8 rfl rfl ?_
  refine me_bipush (pc' := 11) (v := 6) dX2_init_9 rfl kc_b6 ?_
  refine me_callI (As := [.int 6]) (st := [.ref (mh_n h), .ref 90]) (F' := mm_K) (G' := mm_K) (F'' := mm_K) (pc' := 14) dX2_init_11 rfl mfX6_init rfl lkX2_11 ⟨Nat.le_of_ble_eq_true rfl, Nat.le_of_ble_eq_true rfl⟩ (Nat.le_of_ble_eq_true rfl) (fun z => z) (rX6_init ((mh_n h)) 6 h2 c1) (fun h3 e4 => Or.inl ⟨_, _, rfl, fun z => z, ?_⟩)
  show mm_E2 _ _ _ _ _ [.ref (mh_n h), .ref 90] h3 _ _
  refine mm_guard (fun c6 => ?_)
  refine me_putF (F' := mm_K) (pc' := 17) dX2_init_14 rfl foX2_14 (mm_ks kd_90) (fun _ => c6) rfl rfl pfX2_0 (fun z => z) ?_
  refine mm_bnd (ms_R h3 90 0 (some ((mh_n h)))) (fun _ => [some (.ref 90)]) (fun _ => []) (fun h5 => h5) (fun h5 => ?_)
  exact me_vret dX2_init_17 rfl (fun z => z) rfl
def gX8_init (o : Nat) (p0 : Int32) (h : mm_H) : Option mm_H :=
if mm_kd (mh_n h) = (3, (Int32.toNatClampNeg ((mm_max 0 p0)))) ∧ ¬ ((mm_max 0 p0) : Int32) < 0 ∧ (Int32.toNatClampNeg ((mm_max 0 p0))) ≤ 60000 then
(some (ms_N h (Int32.toNatClampNeg ((mm_max 0 p0))))).bind (fun (h2 : mm_H) =>
if o < mh_n h2 then
(some (ms_R h2 o 0 (some ((mh_n h))))).bind (fun (h3 : mm_H) =>
some h3) else none) else none
theorem rX8_init (o : Nat) (p0 : Int32) (h : mm_H) (ho : mm_kd o = (0, 8)) : mm_R2 mm_K mm_K mX8_init [.ref o, .int p0] h (gX8_init o p0 h) lf_v := by
  refine mm_body (L := [some (.ref o), some (.int p0)]) rfl (by decide +kernel) (Nat.le_of_ble_eq_true rfl) rfl ?_
  unfold gX8_init
  refine me_aload_n (pc' := 1) (i := 0) dX8_init_0 rfl rfl rfl ?_
  refine me_objInit (pc' := 4) dX8_init_1 rfl ljX8_3 ⟨Nat.le_of_ble_eq_true rfl, Nat.le_of_ble_eq_true rfl⟩ (Nat.le_of_ble_eq_true rfl) ?_
  refine me_aload_n (pc' := 5) (i := 0) dX8_init_4 rfl rfl rfl ?_
  refine me_iconst (pc' := 6) (v := 0) dX8_init_5 rfl kc_i0 ?_
  refine me_iload_n (pc' := 7) (i := 1) dX8_init_6 rfl rfl rfl ?_
  refine me_mmax (pc' := 10) dX8_init_7 rfl ljX8_9 ⟨Nat.le_of_ble_eq_true rfl, Nat.le_of_ble_eq_true rfl⟩ (Nat.le_of_ble_eq_true rfl) ?_
  show mm_E2 _ _ _ _ _ [.int (mm_max 0 p0), .ref o] _ _ _
  refine mm_guard (fun c1 => ?_)
  refine me_newaB (F' := mm_K) (pc' := 12) (N := (Int32.toNatClampNeg ((mm_max 0 p0)))) dX8_init_10 rfl c1.1 c1.2.1 rfl c1.2.2 (fun z => z) mm_K_N ?_
  refine mm_bnd (ms_N h (Int32.toNatClampNeg ((mm_max 0 p0)))) (fun _ => [some (.ref o), some (.int p0)]) (fun _ => [.ref (mh_n h), .ref o]) (fun h2 => h2) (fun h2 => ?_)
  refine mm_guard (fun c4 => ?_)
  refine me_putF (F' := mm_K) (pc' := 15) dX8_init_12 rfl foX8_15 (mm_ks ho) (fun _ => c4) rfl rfl pfX8_0 (fun z => z) ?_
  refine mm_bnd (ms_R h2 o 0 (some ((mh_n h)))) (fun _ => [some (.ref o), some (.int p0)]) (fun _ => []) (fun h3 => h3) (fun h3 => ?_)
  exact me_vret dX8_init_15 rfl (fun z => z) rfl
def gX9_init (h : mm_H) : Option mm_H :=
if mm_kd (mh_n h) = (0, 8) then
(some (ms_N h 2)).bind (fun (h2 : mm_H) =>
(gX8_init ((mh_n h)) 0 h2).bind (fun (h3 : mm_H) =>
if 6 < mh_n h3 then
(some (ms_R h3 6 0 (some ((mh_n h))))).bind (fun (h5 : mm_H) =>
some h5) else none)) else none
theorem rX9_init (h : mm_H) : mm_R2 mm_K mm_K mX9_init [.ref 6] h (gX9_init h) lf_v := by
  refine mm_body (L := [some (.ref 6)]) rfl (by decide +kernel) (Nat.le_of_ble_eq_true rfl) rfl ?_
  unfold gX9_init
  refine me_aload_n (pc' := 1) (i := 0) dX9_init_0 rfl rfl rfl ?_
  refine me_objInit (pc' := 4) dX9_init_1 rfl ljX9_3 ⟨Nat.le_of_ble_eq_true rfl, Nat.le_of_ble_eq_true rfl⟩ (Nat.le_of_ble_eq_true rfl) ?_
  refine me_aload_n (pc' := 5) (i := 0) dX9_init_4 rfl rfl rfl ?_
  refine mm_guard (fun c1 => ?_)
  refine me_new (F' := mm_K) (pc' := 8) (N := 2) (ci := 8) dX9_init_5 rfl nkX9_9 rfl c1 (fun z => z) mm_K_N ?_
  refine mm_bnd (ms_N h 2) (fun _ => [some (.ref 6)]) (fun _ => [.ref (mh_n h), .ref 6]) (fun h2 => h2) (fun h2 => ?_)
  refine me_dup (pc' := 9) dX9_init_8 rfl rfl ?_
  refine me_iconst (pc' := 10) (v := 0) dX9_init_9 rfl kc_i0 ?_
  refine me_callI (As := [.int 0]) (st := [.ref (mh_n h), .ref 6]) (F' := mm_K) (G' := mm_K) (F'' := mm_K) (pc' := 13) dX9_init_10 rfl mfX8_init rfl lkX9_11 ⟨Nat.le_of_ble_eq_true rfl, Nat.le_of_ble_eq_true rfl⟩ (Nat.le_of_ble_eq_true rfl) (fun z => z) (rX8_init ((mh_n h)) 0 h2 c1) (fun h3 e4 => Or.inl ⟨_, _, rfl, fun z => z, ?_⟩)
  show mm_E2 _ _ _ _ _ [.ref (mh_n h), .ref 6] h3 _ _
  refine mm_guard (fun c6 => ?_)
  refine me_putTK (F' := mm_K) (pc' := 16) dX9_init_13 rfl fkX9_14 (fun _ => c6) (fun z => z) ?_
  refine mm_bnd (ms_R h3 6 0 (some ((mh_n h)))) (fun _ => [some (.ref 6)]) (fun _ => []) (fun h5 => h5) (fun h5 => ?_)
  exact me_vret dX9_init_16 rfl (fun z => z) rfl
def gX3_init (h : mm_H) : Option mm_H :=
if mh_n h = 6 then
(some (ms_N h 5)).bind (fun (h2 : mm_H) =>
(gX9_init h2).bind (fun (h3 : mm_H) =>
if 5 < mh_n h3 then
(some (ms_R h3 5 0 (some 6))).bind (fun (h5 : mm_H) =>
if 5 < mh_n h5 then
(some (ms_I h5 5 2 (-1))).bind (fun (h7 : mm_H) =>
some h7) else none) else none)) else none
theorem rX3_init (h : mm_H) : mm_R2 mm_K mm_K mX3_init [.ref 5] h (gX3_init h) lf_v := by
  refine mm_body (L := [some (.ref 5)]) rfl (by decide +kernel) (Nat.le_of_ble_eq_true rfl) rfl ?_
  unfold gX3_init
  refine me_aload_n (pc' := 1) (i := 0) dX3_init_0 rfl rfl rfl ?_
  refine me_objInit (pc' := 4) dX3_init_1 rfl ljX3_3 ⟨Nat.le_of_ble_eq_true rfl, Nat.le_of_ble_eq_true rfl⟩ (Nat.le_of_ble_eq_true rfl) ?_
  refine me_aload_n (pc' := 5) (i := 0) dX3_init_4 rfl rfl rfl ?_
  refine mm_guard (fun c1 => ?_)
  refine me_newS (F' := mm_K) (pc' := 8) (N := 5) (ci := 9) (q0 := 6) dX3_init_5 rfl nkX3_9 rfl c1 kd_6 (fun z => z) mm_K_N ?_
  refine mm_bnd (ms_N h 5) (fun _ => [some (.ref 5)]) (fun _ => [.ref 6, .ref 5]) (fun h2 => h2) (fun h2 => ?_)
  refine me_dup (pc' := 9) dX3_init_8 rfl rfl ?_
  refine me_callI (As := []) (st := [.ref 6, .ref 5]) (F' := mm_K) (G' := mm_K) (F'' := mm_K) (pc' := 12) dX3_init_9 rfl mfX9_init rfl lkX3_11 ⟨Nat.le_of_ble_eq_true rfl, Nat.le_of_ble_eq_true rfl⟩ (Nat.le_of_ble_eq_true rfl) (fun z => z) (rX9_init h2 ) (fun h3 e4 => Or.inl ⟨_, _, rfl, fun z => z, ?_⟩)
  show mm_E2 _ _ _ _ _ [.ref 6, .ref 5] h3 _ _
  refine mm_guard (fun c6 => ?_)
  refine me_putF (F' := mm_K) (pc' := 15) dX3_init_12 rfl foX3_12 (mm_ks kd_5) (fun _ => c6) rfl rfl pfX3_0 (fun z => z) ?_
  refine mm_bnd (ms_R h3 5 0 (some 6)) (fun _ => [some (.ref 5)]) (fun _ => []) (fun h5 => h5) (fun h5 => ?_)
  refine me_aload_n (pc' := 16) (i := 0) dX3_init_15 rfl rfl rfl ?_
  refine me_iconst (pc' := 17) (v := (-1)) dX3_init_16 rfl kc_im1 ?_
  refine mm_guard (fun c8 => ?_)
  refine me_putI (F' := mm_K) (pc' := 20) dX3_init_17 rfl fkX3_18 (mm_ks kd_5) (fun _ => c8) rfl pgX3_2 (fun z => z) ?_
  refine mm_bnd (ms_I h5 5 2 (-1)) (fun _ => [some (.ref 5)]) (fun _ => []) (fun h7 => h7) (fun h7 => ?_)
  exact me_vret dX3_init_20 rfl (fun z => z) rfl
def gX5_init (h : mm_H) : Option mm_H :=
if mm_kd (mh_n h) = (0, 4) then
(some (ms_N h 1)).bind (fun (h2 : mm_H) =>
(gX4_init ((mh_n h)) 30 h2).bind (fun (h3 : mm_H) =>
if 9 < mh_n h3 then
(some (ms_R h3 9 2 (some ((mh_n h))))).bind (fun (h5 : mm_H) =>
if mm_kd (mh_n h5) = (0, 4) then
(some (ms_N h5 1)).bind (fun (h8 : mm_H) =>
(gX4_init ((mh_n h5)) 120 h8).bind (fun (h9 : mm_H) =>
if 9 < mh_n h9 then
(some (ms_R h9 9 3 (some ((mh_n h5))))).bind (fun (h11 : mm_H) =>
some h11) else none)) else none) else none)) else none
theorem rX5_init (h : mm_H) : mm_R2 mm_K mm_K mX5_init [.ref 9] h (gX5_init h) lf_v := by
  refine mm_body (L := [some (.ref 9)]) rfl (by decide +kernel) (Nat.le_of_ble_eq_true rfl) rfl ?_
  unfold gX5_init
  refine me_aload_n (pc' := 1) (i := 0) dX5_init_0 rfl rfl rfl ?_
  refine me_objInit (pc' := 4) dX5_init_1 rfl ljX5_3 ⟨Nat.le_of_ble_eq_true rfl, Nat.le_of_ble_eq_true rfl⟩ (Nat.le_of_ble_eq_true rfl) ?_
  refine me_aload_n (pc' := 5) (i := 0) dX5_init_4 rfl rfl rfl ?_
  refine mm_guard (fun c1 => ?_)
  refine me_new (F' := mm_K) (pc' := 8) (N := 1) (ci := 4) dX5_init_5 rfl nkX5_9 rfl c1 (fun z => z) mm_K_N ?_
  refine mm_bnd (ms_N h 1) (fun _ => [some (.ref 9)]) (fun _ => [.ref (mh_n h), .ref 9]) (fun h2 => h2) (fun h2 => ?_)
  refine me_dup (pc' := 9) dX5_init_8 rfl rfl ?_
  refine me_bipush (pc' := 11) (v := 30) dX5_init_9 rfl kc_b30 ?_
  refine me_callI (As := [.int 30]) (st := [.ref (mh_n h), .ref 9]) (F' := mm_K) (G' := mm_K) (F'' := mm_K) (pc' := 14) dX5_init_11 rfl mfX4_init rfl lkX5_11 ⟨Nat.le_of_ble_eq_true rfl, Nat.le_of_ble_eq_true rfl⟩ (Nat.le_of_ble_eq_true rfl) (fun z => z) (rX4_init ((mh_n h)) 30 h2 c1) (fun h3 e4 => Or.inl ⟨_, _, rfl, fun z => z, ?_⟩)
  show mm_E2 _ _ _ _ _ [.ref (mh_n h), .ref 9] h3 _ _
  refine mm_guard (fun c6 => ?_)
  refine me_putF (F' := mm_K) (pc' := 17) dX5_init_14 rfl foX5_14 (mm_ks kd_9) (fun _ => c6) rfl rfl pfX5_2 (fun z => z) ?_
  refine mm_bnd (ms_R h3 9 2 (some ((mh_n h)))) (fun _ => [some (.ref 9)]) (fun _ => []) (fun h5 => h5) (fun h5 => ?_)
  refine me_aload_n (pc' := 18) (i := 0) dX5_init_17 rfl rfl rfl ?_
  refine mm_guard (fun c7 => ?_)
  refine me_new (F' := mm_K) (pc' := 21) (N := 1) (ci := 4) dX5_init_18 rfl nkX5_9 rfl c7 (fun z => z) mm_K_N ?_
  refine mm_bnd (ms_N h5 1) (fun _ => [some (.ref 9)]) (fun _ => [.ref (mh_n h5), .ref 9]) (fun h8 => h8) (fun h8 => ?_)
  refine me_dup (pc' := 22) dX5_init_21 rfl rfl ?_
  refine me_bipush (pc' := 24) (v := 120) dX5_init_22 rfl kc_b120 ?_
  refine me_callI (As := [.int 120]) (st := [.ref (mh_n h5), .ref 9]) (F' := mm_K) (G' := mm_K) (F'' := mm_K) (pc' := 27) dX5_init_24 rfl mfX4_init rfl lkX5_11 ⟨Nat.le_of_ble_eq_true rfl, Nat.le_of_ble_eq_true rfl⟩ (Nat.le_of_ble_eq_true rfl) (fun z => z) (rX4_init ((mh_n h5)) 120 h8 c7) (fun h9 e10 => Or.inl ⟨_, _, rfl, fun z => z, ?_⟩)
  show mm_E2 _ _ _ _ _ [.ref (mh_n h5), .ref 9] h9 _ _
  refine mm_guard (fun c12 => ?_)
  refine me_putF (F' := mm_K) (pc' := 30) dX5_init_27 rfl foX5_20 (mm_ks kd_9) (fun _ => c12) rfl rfl pfX5_3 (fun z => z) ?_
  refine mm_bnd (ms_R h9 9 3 (some ((mh_n h5)))) (fun _ => [some (.ref 9)]) (fun _ => []) (fun h11 => h11) (fun h11 => ?_)
  exact me_vret dX5_init_30 rfl (fun z => z) rfl
def gX10_init (h : mm_H) : Option mm_H :=
if mm_kd (mh_n h) = (0, 8) then
(some (ms_N h 2)).bind (fun (h2 : mm_H) =>
(gX8_init ((mh_n h)) 600 h2).bind (fun (h3 : mm_H) =>
if 0 < mh_n h3 then
(some (ms_R h3 0 0 (some ((mh_n h))))).bind (fun (h5 : mm_H) =>
if mm_kd (mh_n h5) = (0, 8) then
(some (ms_N h5 2)).bind (fun (h8 : mm_H) =>
(gX8_init ((mh_n h5)) 199 h8).bind (fun (h9 : mm_H) =>
if 0 < mh_n h9 then
(some (ms_R h9 0 1 (some ((mh_n h5))))).bind (fun (h11 : mm_H) =>
if mh_n h11 = 5 then
(some (ms_N h11 3)).bind (fun (h14 : mm_H) =>
(gX3_init h14).bind (fun (h15 : mm_H) =>
if 0 < mh_n h15 then
(some (ms_R h15 0 2 (some 5))).bind (fun (h17 : mm_H) =>
if mh_n h17 = 9 then
(some (ms_N h17 4)).bind (fun (h20 : mm_H) =>
(gX5_init h20).bind (fun (h21 : mm_H) =>
if 0 < mh_n h21 then
(some (ms_R h21 0 3 (some 9))).bind (fun (h23 : mm_H) =>
if mm_kd (mh_n h23) = (0, 1) then
(some (ms_N h23 4)).bind (fun (h26 : mm_H) =>
(gX1_init ((mh_n h23)) h26).bind (fun (h27 : mm_H) =>
if 0 < mh_n h27 then
(some (ms_R h27 0 4 (some ((mh_n h23))))).bind (fun (h29 : mm_H) =>
if mm_kd (mh_n h29) = (0, 7) then
(some (ms_N h29 18)).bind (fun (h32 : mm_H) =>
(gX7_init ((mh_n h29)) h32).bind (fun (h33 : mm_H) =>
if 0 < mh_n h33 then
(some (ms_R h33 0 5 (some ((mh_n h29))))).bind (fun (h35 : mm_H) =>
if mm_kd (mh_n h35) = (0, 1) then
(some (ms_N h35 4)).bind (fun (h38 : mm_H) =>
(gX1_init ((mh_n h35)) h38).bind (fun (h39 : mm_H) =>
if 0 < mh_n h39 then
(some (ms_R h39 0 6 (some ((mh_n h35))))).bind (fun (h41 : mm_H) =>
if mm_kd (mh_n h41) = (0, 7) then
(some (ms_N h41 18)).bind (fun (h44 : mm_H) =>
(gX7_init ((mh_n h41)) h44).bind (fun (h45 : mm_H) =>
if 0 < mh_n h45 then
(some (ms_R h45 0 7 (some ((mh_n h41))))).bind (fun (h47 : mm_H) =>
if mh_n h47 = 90 then
(some (ms_N h47 3)).bind (fun (h50 : mm_H) =>
(gX2_init h50).bind (fun (h51 : mm_H) =>
if 0 < mh_n h51 then
(some (ms_R h51 0 8 (some 90))).bind (fun (h53 : mm_H) =>
if mm_kd (mh_n h53) = (0, 6) then
(some (ms_N h53 2)).bind (fun (h56 : mm_H) =>
(gX6_init ((mh_n h53)) 2 h56).bind (fun (h57 : mm_H) =>
if 0 < mh_n h57 then
(some (ms_R h57 0 9 (some ((mh_n h53))))).bind (fun (h59 : mm_H) =>
if mh_n h59 = 347 then
(some (ms_N h59 3)).bind (fun (h62 : mm_H) =>
(gX0_init h62).bind (fun (h63 : mm_H) =>
if 0 < mh_n h63 then
(some (ms_R h63 0 10 (some 347))).bind (fun (h65 : mm_H) =>
if 0 < mh_n h65 then
if mh_R h65 0 4 = some 14 then
if mm_chk 352 7 h65 = true then
(gX1_addProduct 14 0 20 h65).bind (fun (h70 : mm_H) =>
(gX1_addProduct 14 1 50 h70).bind (fun (h72 : mm_H) =>
(gX1_addProduct 14 2 10 h72).bind (fun (h74 : mm_H) =>
(gX7_addBatch 21 0 30 5 12 h74).bind (fun (x76 : (Int32 × mm_H)) =>
(gX7_addBatch 21 0 20 3 10 x76.2).bind (fun (x78 : (Int32 × mm_H)) =>
(gX7_addBatch 21 1 100 200 4 x78.2).bind (fun (x80 : (Int32 × mm_H)) =>
(gX7_addBatch 21 2 24 9 3 x80.2).bind (fun (x82 : (Int32 × mm_H)) =>
if mh_c x82.2 = mh_n x82.2 then
some x82.2 else none))))))) else none else none else none) else none)) else none) else none)) else none) else none)) else none) else none)) else none) else none)) else none) else none)) else none) else none)) else none) else none)) else none) else none)) else none) else none)) else none) else none)) else none
theorem rX10_init (h : mm_H) : mm_R2 mm_K mm_K mX10_init [.ref 0] h (gX10_init h) lf_v := by
  refine mm_body (L := [some (.ref 0)]) rfl (by decide +kernel) (Nat.le_of_ble_eq_true rfl) rfl ?_
  unfold gX10_init
  refine me_aload_n (pc' := 1) (i := 0) dX10_init_0 rfl rfl rfl ?_
  refine me_objInit (pc' := 4) dX10_init_1 rfl ljX10_1 ⟨Nat.le_of_ble_eq_true rfl, Nat.le_of_ble_eq_true rfl⟩ (Nat.le_of_ble_eq_true rfl) ?_
  refine me_aload_n (pc' := 5) (i := 0) dX10_init_4 rfl rfl rfl ?_
  refine mm_guard (fun c1 => ?_)
  refine me_new (F' := mm_K) (pc' := 8) (N := 2) (ci := 8) dX10_init_5 rfl nkX10_7 rfl c1 (fun z => z) mm_K_N ?_
  refine mm_bnd (ms_N h 2) (fun _ => [some (.ref 0)]) (fun _ => [.ref (mh_n h), .ref 0]) (fun h2 => h2) (fun h2 => ?_)
  refine me_dup (pc' := 9) dX10_init_8 rfl rfl ?_
  refine me_sipush (pc' := 12) (v := 600) dX10_init_9 rfl kc_s600 ?_
  refine me_callI (As := [.int 600]) (st := [.ref (mh_n h), .ref 0]) (F' := mm_K) (G' := mm_K) (F'' := mm_K) (pc' := 15) dX10_init_12 rfl mfX8_init rfl lkX10_11 ⟨Nat.le_of_ble_eq_true rfl, Nat.le_of_ble_eq_true rfl⟩ (Nat.le_of_ble_eq_true rfl) (fun z => z) (rX8_init ((mh_n h)) 600 h2 c1) (fun h3 e4 => Or.inl ⟨_, _, rfl, fun z => z, ?_⟩)
  show mm_E2 _ _ _ _ _ [.ref (mh_n h), .ref 0] h3 _ _
  refine mm_guard (fun c6 => ?_)
  refine me_putF (F' := mm_K) (pc' := 18) dX10_init_15 rfl foX10_14 (mm_ks kd_0) (fun _ => c6) rfl rfl pfX10_0 (fun z => z) ?_
  refine mm_bnd (ms_R h3 0 0 (some ((mh_n h)))) (fun _ => [some (.ref 0)]) (fun _ => []) (fun h5 => h5) (fun h5 => ?_)
  refine me_aload_n (pc' := 19) (i := 0) dX10_init_18 rfl rfl rfl ?_
  refine mm_guard (fun c7 => ?_)
  refine me_new (F' := mm_K) (pc' := 22) (N := 2) (ci := 8) dX10_init_19 rfl nkX10_7 rfl c7 (fun z => z) mm_K_N ?_
  refine mm_bnd (ms_N h5 2) (fun _ => [some (.ref 0)]) (fun _ => [.ref (mh_n h5), .ref 0]) (fun h8 => h8) (fun h8 => ?_)
  refine me_dup (pc' := 23) dX10_init_22 rfl rfl ?_
  refine me_sipush (pc' := 26) (v := 199) dX10_init_23 rfl kc_s199 ?_
  refine me_callI (As := [.int 199]) (st := [.ref (mh_n h5), .ref 0]) (F' := mm_K) (G' := mm_K) (F'' := mm_K) (pc' := 29) dX10_init_26 rfl mfX8_init rfl lkX10_11 ⟨Nat.le_of_ble_eq_true rfl, Nat.le_of_ble_eq_true rfl⟩ (Nat.le_of_ble_eq_true rfl) (fun z => z) (rX8_init ((mh_n h5)) 199 h8 c7) (fun h9 e10 => Or.inl ⟨_, _, rfl, fun z => z, ?_⟩)
  show mm_E2 _ _ _ _ _ [.ref (mh_n h5), .ref 0] h9 _ _
  refine mm_guard (fun c12 => ?_)
  refine me_putF (F' := mm_K) (pc' := 32) dX10_init_29 rfl foX10_18 (mm_ks kd_0) (fun _ => c12) rfl rfl pfX10_1 (fun z => z) ?_
  refine mm_bnd (ms_R h9 0 1 (some ((mh_n h5)))) (fun _ => [some (.ref 0)]) (fun _ => []) (fun h11 => h11) (fun h11 => ?_)
  refine me_aload_n (pc' := 33) (i := 0) dX10_init_32 rfl rfl rfl ?_
  refine mm_guard (fun c13 => ?_)
  refine me_newS (F' := mm_K) (pc' := 36) (N := 3) (ci := 3) (q0 := 5) dX10_init_33 rfl nkX10_21 rfl c13 kd_5 (fun z => z) mm_K_N ?_
  refine mm_bnd (ms_N h11 3) (fun _ => [some (.ref 0)]) (fun _ => [.ref 5, .ref 0]) (fun h14 => h14) (fun h14 => ?_)
  refine me_dup (pc' := 37) dX10_init_36 rfl rfl ?_
  refine me_callI (As := []) (st := [.ref 5, .ref 0]) (F' := mm_K) (G' := mm_K) (F'' := mm_K) (pc' := 40) dX10_init_37 rfl mfX3_init rfl lkX10_23 ⟨Nat.le_of_ble_eq_true rfl, Nat.le_of_ble_eq_true rfl⟩ (Nat.le_of_ble_eq_true rfl) (fun z => z) (rX3_init h14 ) (fun h15 e16 => Or.inl ⟨_, _, rfl, fun z => z, ?_⟩)
  show mm_E2 _ _ _ _ _ [.ref 5, .ref 0] h15 _ _
  refine mm_guard (fun c18 => ?_)
  refine me_putF (F' := mm_K) (pc' := 43) dX10_init_40 rfl foX10_24 (mm_ks kd_0) (fun _ => c18) rfl rfl pfX10_2 (fun z => z) ?_
  refine mm_bnd (ms_R h15 0 2 (some 5)) (fun _ => [some (.ref 0)]) (fun _ => []) (fun h17 => h17) (fun h17 => ?_)
  refine me_aload_n (pc' := 44) (i := 0) dX10_init_43 rfl rfl rfl ?_
  refine mm_guard (fun c19 => ?_)
  refine me_newS (F' := mm_K) (pc' := 47) (N := 4) (ci := 5) (q0 := 9) dX10_init_44 rfl nkX10_28 rfl c19 kd_9 (fun z => z) mm_K_N ?_
  refine mm_bnd (ms_N h17 4) (fun _ => [some (.ref 0)]) (fun _ => [.ref 9, .ref 0]) (fun h20 => h20) (fun h20 => ?_)
  refine me_dup (pc' := 48) dX10_init_47 rfl rfl ?_
  refine me_callI (As := []) (st := [.ref 9, .ref 0]) (F' := mm_K) (G' := mm_K) (F'' := mm_K) (pc' := 51) dX10_init_48 rfl mfX5_init rfl lkX10_30 ⟨Nat.le_of_ble_eq_true rfl, Nat.le_of_ble_eq_true rfl⟩ (Nat.le_of_ble_eq_true rfl) (fun z => z) (rX5_init h20 ) (fun h21 e22 => Or.inl ⟨_, _, rfl, fun z => z, ?_⟩)
  show mm_E2 _ _ _ _ _ [.ref 9, .ref 0] h21 _ _
  refine mm_guard (fun c24 => ?_)
  refine me_putF (F' := mm_K) (pc' := 54) dX10_init_51 rfl foX10_31 (mm_ks kd_0) (fun _ => c24) rfl rfl pfX10_3 (fun z => z) ?_
  refine mm_bnd (ms_R h21 0 3 (some 9)) (fun _ => [some (.ref 0)]) (fun _ => []) (fun h23 => h23) (fun h23 => ?_)
  refine me_aload_n (pc' := 55) (i := 0) dX10_init_54 rfl rfl rfl ?_
  refine mm_guard (fun c25 => ?_)
  refine me_new (F' := mm_K) (pc' := 58) (N := 4) (ci := 1) dX10_init_55 rfl nkX10_35 rfl c25 (fun z => z) mm_K_N ?_
  refine mm_bnd (ms_N h23 4) (fun _ => [some (.ref 0)]) (fun _ => [.ref (mh_n h23), .ref 0]) (fun h26 => h26) (fun h26 => ?_)
  refine me_dup (pc' := 59) dX10_init_58 rfl rfl ?_
  refine me_callI (As := []) (st := [.ref (mh_n h23), .ref 0]) (F' := mm_K) (G' := mm_K) (F'' := mm_K) (pc' := 62) dX10_init_59 rfl mfX1_init rfl lkX10_37 ⟨Nat.le_of_ble_eq_true rfl, Nat.le_of_ble_eq_true rfl⟩ (Nat.le_of_ble_eq_true rfl) (fun z => z) (rX1_init ((mh_n h23)) h26 c25) (fun h27 e28 => Or.inl ⟨_, _, rfl, fun z => z, ?_⟩)
  show mm_E2 _ _ _ _ _ [.ref (mh_n h23), .ref 0] h27 _ _
  refine mm_guard (fun c30 => ?_)
  refine me_putF (F' := mm_K) (pc' := 65) dX10_init_62 rfl foX10_38 (mm_ks kd_0) (fun _ => c30) rfl rfl pfX10_4 (fun z => z) ?_
  refine mm_bnd (ms_R h27 0 4 (some ((mh_n h23)))) (fun _ => [some (.ref 0)]) (fun _ => []) (fun h29 => h29) (fun h29 => ?_)
  refine me_aload_n (pc' := 66) (i := 0) dX10_init_65 rfl rfl rfl ?_
  refine mm_guard (fun c31 => ?_)
  refine me_new (F' := mm_K) (pc' := 69) (N := 18) (ci := 7) dX10_init_66 rfl nkX10_42 rfl c31 (fun z => z) mm_K_N ?_
  refine mm_bnd (ms_N h29 18) (fun _ => [some (.ref 0)]) (fun _ => [.ref (mh_n h29), .ref 0]) (fun h32 => h32) (fun h32 => ?_)
  refine me_dup (pc' := 70) dX10_init_69 rfl rfl ?_
  refine me_callI (As := []) (st := [.ref (mh_n h29), .ref 0]) (F' := mm_K) (G' := mm_K) (F'' := mm_K) (pc' := 73) dX10_init_70 rfl mfX7_init rfl lkX10_44 ⟨Nat.le_of_ble_eq_true rfl, Nat.le_of_ble_eq_true rfl⟩ (Nat.le_of_ble_eq_true rfl) (fun z => z) (rX7_init ((mh_n h29)) h32 c31) (fun h33 e34 => Or.inl ⟨_, _, rfl, fun z => z, ?_⟩)
  show mm_E2 _ _ _ _ _ [.ref (mh_n h29), .ref 0] h33 _ _
  refine mm_guard (fun c36 => ?_)
  refine me_putF (F' := mm_K) (pc' := 76) dX10_init_73 rfl foX10_45 (mm_ks kd_0) (fun _ => c36) rfl rfl pfX10_5 (fun z => z) ?_
  refine mm_bnd (ms_R h33 0 5 (some ((mh_n h29)))) (fun _ => [some (.ref 0)]) (fun _ => []) (fun h35 => h35) (fun h35 => ?_)
  refine me_aload_n (pc' := 77) (i := 0) dX10_init_76 rfl rfl rfl ?_
  refine mm_guard (fun c37 => ?_)
  refine me_new (F' := mm_K) (pc' := 80) (N := 4) (ci := 1) dX10_init_77 rfl nkX10_35 rfl c37 (fun z => z) mm_K_N ?_
  refine mm_bnd (ms_N h35 4) (fun _ => [some (.ref 0)]) (fun _ => [.ref (mh_n h35), .ref 0]) (fun h38 => h38) (fun h38 => ?_)
  refine me_dup (pc' := 81) dX10_init_80 rfl rfl ?_
  refine me_callI (As := []) (st := [.ref (mh_n h35), .ref 0]) (F' := mm_K) (G' := mm_K) (F'' := mm_K) (pc' := 84) dX10_init_81 rfl mfX1_init rfl lkX10_37 ⟨Nat.le_of_ble_eq_true rfl, Nat.le_of_ble_eq_true rfl⟩ (Nat.le_of_ble_eq_true rfl) (fun z => z) (rX1_init ((mh_n h35)) h38 c37) (fun h39 e40 => Or.inl ⟨_, _, rfl, fun z => z, ?_⟩)
  show mm_E2 _ _ _ _ _ [.ref (mh_n h35), .ref 0] h39 _ _
  refine mm_guard (fun c42 => ?_)
  refine me_putF (F' := mm_K) (pc' := 87) dX10_init_84 rfl foX10_49 (mm_ks kd_0) (fun _ => c42) rfl rfl pfX10_6 (fun z => z) ?_
  refine mm_bnd (ms_R h39 0 6 (some ((mh_n h35)))) (fun _ => [some (.ref 0)]) (fun _ => []) (fun h41 => h41) (fun h41 => ?_)
  refine me_aload_n (pc' := 88) (i := 0) dX10_init_87 rfl rfl rfl ?_
  refine mm_guard (fun c43 => ?_)
  refine me_new (F' := mm_K) (pc' := 91) (N := 18) (ci := 7) dX10_init_88 rfl nkX10_42 rfl c43 (fun z => z) mm_K_N ?_
  refine mm_bnd (ms_N h41 18) (fun _ => [some (.ref 0)]) (fun _ => [.ref (mh_n h41), .ref 0]) (fun h44 => h44) (fun h44 => ?_)
  refine me_dup (pc' := 92) dX10_init_91 rfl rfl ?_
  refine me_callI (As := []) (st := [.ref (mh_n h41), .ref 0]) (F' := mm_K) (G' := mm_K) (F'' := mm_K) (pc' := 95) dX10_init_92 rfl mfX7_init rfl lkX10_44 ⟨Nat.le_of_ble_eq_true rfl, Nat.le_of_ble_eq_true rfl⟩ (Nat.le_of_ble_eq_true rfl) (fun z => z) (rX7_init ((mh_n h41)) h44 c43) (fun h45 e46 => Or.inl ⟨_, _, rfl, fun z => z, ?_⟩)
  show mm_E2 _ _ _ _ _ [.ref (mh_n h41), .ref 0] h45 _ _
  refine mm_guard (fun c48 => ?_)
  refine me_putF (F' := mm_K) (pc' := 98) dX10_init_95 rfl foX10_52 (mm_ks kd_0) (fun _ => c48) rfl rfl pfX10_7 (fun z => z) ?_
  refine mm_bnd (ms_R h45 0 7 (some ((mh_n h41)))) (fun _ => [some (.ref 0)]) (fun _ => []) (fun h47 => h47) (fun h47 => ?_)
  refine me_aload_n (pc' := 99) (i := 0) dX10_init_98 rfl rfl rfl ?_
  refine mm_guard (fun c49 => ?_)
  refine me_newS (F' := mm_K) (pc' := 102) (N := 3) (ci := 2) (q0 := 90) dX10_init_99 rfl nkX10_55 rfl c49 kd_90 (fun z => z) mm_K_N ?_
  refine mm_bnd (ms_N h47 3) (fun _ => [some (.ref 0)]) (fun _ => [.ref 90, .ref 0]) (fun h50 => h50) (fun h50 => ?_)
  refine me_dup (pc' := 103) dX10_init_102 rfl rfl ?_
  refine me_callI (As := []) (st := [.ref 90, .ref 0]) (F' := mm_K) (G' := mm_K) (F'' := mm_K) (pc' := 106) dX10_init_103 rfl mfX2_init rfl lkX10_57 ⟨Nat.le_of_ble_eq_true rfl, Nat.le_of_ble_eq_true rfl⟩ (Nat.le_of_ble_eq_true rfl) (fun z => z) (rX2_init h50 ) (fun h51 e52 => Or.inl ⟨_, _, rfl, fun z => z, ?_⟩)
  show mm_E2 _ _ _ _ _ [.ref 90, .ref 0] h51 _ _
  refine mm_guard (fun c54 => ?_)
  refine me_putF (F' := mm_K) (pc' := 109) dX10_init_106 rfl foX10_58 (mm_ks kd_0) (fun _ => c54) rfl rfl pfX10_8 (fun z => z) ?_
  refine mm_bnd (ms_R h51 0 8 (some 90)) (fun _ => [some (.ref 0)]) (fun _ => []) (fun h53 => h53) (fun h53 => ?_)
  refine me_aload_n (pc' := 110) (i := 0) dX10_init_109 rfl rfl rfl ?_
  refine mm_guard (fun c55 => ?_)
  refine me_new (F' := mm_K) (pc' := 113) (N := 2) (ci := 6) dX10_init_110 rfl nkX10_62 rfl c55 (fun z => z) mm_K_N ?_
  refine mm_bnd (ms_N h53 2) (fun _ => [some (.ref 0)]) (fun _ => [.ref (mh_n h53), .ref 0]) (fun h56 => h56) (fun h56 => ?_)
  refine me_dup (pc' := 114) dX10_init_113 rfl rfl ?_
  refine me_iconst (pc' := 115) (v := 2) dX10_init_114 rfl kc_i2 ?_
  refine me_callI (As := [.int 2]) (st := [.ref (mh_n h53), .ref 0]) (F' := mm_K) (G' := mm_K) (F'' := mm_K) (pc' := 118) dX10_init_115 rfl mfX6_init rfl lkX10_64 ⟨Nat.le_of_ble_eq_true rfl, Nat.le_of_ble_eq_true rfl⟩ (Nat.le_of_ble_eq_true rfl) (fun z => z) (rX6_init ((mh_n h53)) 2 h56 c55) (fun h57 e58 => Or.inl ⟨_, _, rfl, fun z => z, ?_⟩)
  show mm_E2 _ _ _ _ _ [.ref (mh_n h53), .ref 0] h57 _ _
  refine mm_guard (fun c60 => ?_)
  refine me_putF (F' := mm_K) (pc' := 121) dX10_init_118 rfl foX10_65 (mm_ks kd_0) (fun _ => c60) rfl rfl pfX10_9 (fun z => z) ?_
  refine mm_bnd (ms_R h57 0 9 (some ((mh_n h53)))) (fun _ => [some (.ref 0)]) (fun _ => []) (fun h59 => h59) (fun h59 => ?_)
  refine me_aload_n (pc' := 122) (i := 0) dX10_init_121 rfl rfl rfl ?_
  refine mm_guard (fun c61 => ?_)
  refine me_newS (F' := mm_K) (pc' := 125) (N := 3) (ci := 0) (q0 := 347) dX10_init_122 rfl nkX10_69 rfl c61 kd_347 (fun z => z) mm_K_N ?_
  refine mm_bnd (ms_N h59 3) (fun _ => [some (.ref 0)]) (fun _ => [.ref 347, .ref 0]) (fun h62 => h62) (fun h62 => ?_)
  refine me_dup (pc' := 126) dX10_init_125 rfl rfl ?_
  refine me_callI (As := []) (st := [.ref 347, .ref 0]) (F' := mm_K) (G' := mm_K) (F'' := mm_K) (pc' := 129) dX10_init_126 rfl mfX0_init rfl lkX10_71 ⟨Nat.le_of_ble_eq_true rfl, Nat.le_of_ble_eq_true rfl⟩ (Nat.le_of_ble_eq_true rfl) (fun z => z) (rX0_init h62 ) (fun h63 e64 => Or.inl ⟨_, _, rfl, fun z => z, ?_⟩)
  show mm_E2 _ _ _ _ _ [.ref 347, .ref 0] h63 _ _
  refine mm_guard (fun c66 => ?_)
  refine me_putF (F' := mm_K) (pc' := 132) dX10_init_129 rfl foX10_72 (mm_ks kd_0) (fun _ => c66) rfl rfl pfX10_10 (fun z => z) ?_
  refine mm_bnd (ms_R h63 0 10 (some 347)) (fun _ => [some (.ref 0)]) (fun _ => []) (fun h65 => h65) (fun h65 => ?_)
  refine me_aload_n (pc' := 133) (i := 0) dX10_init_132 rfl rfl rfl ?_
  refine mm_guard (fun c67 => ?_)
  refine mm_guard (fun c68 => ?_)
  refine me_getR (pc' := 136) (q' := 14) dX10_init_133 rfl fkX10_38 (mm_ks kd_0) (fun _ => c67) rfl (fun _ => c68) ?_
  refine me_ldc (pc' := 138) (q := 401) dX10_init_136 rfl (sr_0) rfl ?_
  refine me_bipush (pc' := 140) (v := 20) dX10_init_138 rfl kc_b20 ?_
  refine mm_sw (F' := (mm_Sq (352, 7, mh_D h65, mh_R h65))) mm_chk_352 (fun c69 => ?_)
  refine me_callV (As := [.ref 401, .int 20]) (st := []) (F' := (mm_Sq (352, 7, mh_D h65, mh_R h65))) (G' := (mm_Sq (352, 7, mh_D h65, mh_R h65))) (F'' := (mm_Sq (352, 7, mh_D h65, mh_R h65))) (pc' := 143) dX10_init_140 rfl mfX1_addProduct rfl lkX10_78 (mm_ks kd_14) rfl (mm_ltq kd_14) ⟨Nat.le_of_ble_eq_true rfl, Nat.le_of_ble_eq_true rfl⟩ (Nat.le_of_ble_eq_true rfl) (fun z => z) (rX1_addProduct (q := (352, 7, mh_D h65, mh_R h65)) 14 0 20 h65 kd_14 (by decide)) (fun h70 e71 => Or.inl ⟨_, _, rfl, fun z => z, ?_⟩)
  show mm_E2 _ _ _ _ _ [] h70 _ _
  refine me_aload_n (pc' := 144) (i := 0) dX10_init_143 rfl rfl rfl ?_
  refine me_getR (pc' := 147) (q' := 14) dX10_init_144 rfl fkX10_38 (mm_ks kd_0) (mm_ltq kd_0) rfl (mrX10_4 kd_0) ?_
  refine me_ldc (pc' := 149) (q := 402) dX10_init_147 rfl (sr_1) rfl ?_
  refine me_bipush (pc' := 151) (v := 50) dX10_init_149 rfl kc_b50 ?_
  refine me_callV (As := [.ref 402, .int 50]) (st := []) (F' := (mm_Sq (352, 7, mh_D h65, mh_R h65))) (G' := (mm_Sq (352, 7, mh_D h65, mh_R h65))) (F'' := (mm_Sq (352, 7, mh_D h65, mh_R h65))) (pc' := 154) dX10_init_151 rfl mfX1_addProduct rfl lkX10_78 (mm_ks kd_14) rfl (mm_ltq kd_14) ⟨Nat.le_of_ble_eq_true rfl, Nat.le_of_ble_eq_true rfl⟩ (Nat.le_of_ble_eq_true rfl) (fun z => z) (rX1_addProduct (q := (352, 7, mh_D h65, mh_R h65)) 14 1 50 h70 kd_14 (by decide)) (fun h72 e73 => Or.inl ⟨_, _, rfl, fun z => z, ?_⟩)
  show mm_E2 _ _ _ _ _ [] h72 _ _
  refine me_aload_n (pc' := 155) (i := 0) dX10_init_154 rfl rfl rfl ?_
  refine me_getR (pc' := 158) (q' := 14) dX10_init_155 rfl fkX10_38 (mm_ks kd_0) (mm_ltq kd_0) rfl (mrX10_4 kd_0) ?_
  refine me_ldc (pc' := 160) (q := 403) dX10_init_158 rfl (sr_2) rfl ?_
  refine me_bipush (pc' := 162) (v := 10) dX10_init_160 rfl kc_b10 ?_
  refine me_callV (As := [.ref 403, .int 10]) (st := []) (F' := (mm_Sq (352, 7, mh_D h65, mh_R h65))) (G' := (mm_Sq (352, 7, mh_D h65, mh_R h65))) (F'' := (mm_Sq (352, 7, mh_D h65, mh_R h65))) (pc' := 165) dX10_init_162 rfl mfX1_addProduct rfl lkX10_78 (mm_ks kd_14) rfl (mm_ltq kd_14) ⟨Nat.le_of_ble_eq_true rfl, Nat.le_of_ble_eq_true rfl⟩ (Nat.le_of_ble_eq_true rfl) (fun z => z) (rX1_addProduct (q := (352, 7, mh_D h65, mh_R h65)) 14 2 10 h72 kd_14 (by decide)) (fun h74 e75 => Or.inl ⟨_, _, rfl, fun z => z, ?_⟩)
  show mm_E2 _ _ _ _ _ [] h74 _ _
  refine me_aload_n (pc' := 166) (i := 0) dX10_init_165 rfl rfl rfl ?_
  refine me_getR (pc' := 169) (q' := 21) dX10_init_166 rfl fkX10_45 (mm_ks kd_0) (mm_ltq kd_0) rfl (mrX10_5 kd_0) ?_
  refine me_iconst (pc' := 170) (v := 0) dX10_init_169 rfl kc_i0 ?_
  refine me_bipush (pc' := 172) (v := 30) dX10_init_170 rfl kc_b30 ?_
  refine me_iconst (pc' := 173) (v := 5) dX10_init_172 rfl kc_i5 ?_
  refine me_bipush (pc' := 175) (v := 12) dX10_init_173 rfl kc_b12 ?_
  refine me_callV (As := [.int 0, .int 30, .int 5, .int 12]) (st := []) (F' := (mm_Sq (352, 7, mh_D h65, mh_R h65))) (G' := (mm_Sq (352, 7, mh_D h65, mh_R h65))) (F'' := (mm_Sq (352, 7, mh_D h65, mh_R h65))) (pc' := 178) dX10_init_175 rfl mfX7_addBatch rfl lkX10_86 (mm_ks kd_21) rfl (mm_ltq kd_21) ⟨Nat.le_of_ble_eq_true rfl, Nat.le_of_ble_eq_true rfl⟩ (Nat.le_of_ble_eq_true rfl) (fun z => z) (rX7_addBatch (q := (352, 7, mh_D h65, mh_R h65)) 21 0 30 5 12 h74 kd_21) (fun x76 e77 => Or.inl ⟨_, _, rfl, fun z => z, ?_⟩)
  show mm_E2 _ _ _ _ _ [.int x76.1] x76.2 _ _
  refine me_pop (pc' := 179) dX10_init_178 rfl rfl ?_
  refine me_aload_n (pc' := 180) (i := 0) dX10_init_179 rfl rfl rfl ?_
  refine me_getR (pc' := 183) (q' := 21) dX10_init_180 rfl fkX10_45 (mm_ks kd_0) (mm_ltq kd_0) rfl (mrX10_5 kd_0) ?_
  refine me_iconst (pc' := 184) (v := 0) dX10_init_183 rfl kc_i0 ?_
  refine me_bipush (pc' := 186) (v := 20) dX10_init_184 rfl kc_b20 ?_
  refine me_iconst (pc' := 187) (v := 3) dX10_init_186 rfl kc_i3 ?_
  refine me_bipush (pc' := 189) (v := 10) dX10_init_187 rfl kc_b10 ?_
  refine me_callV (As := [.int 0, .int 20, .int 3, .int 10]) (st := []) (F' := (mm_Sq (352, 7, mh_D h65, mh_R h65))) (G' := (mm_Sq (352, 7, mh_D h65, mh_R h65))) (F'' := (mm_Sq (352, 7, mh_D h65, mh_R h65))) (pc' := 192) dX10_init_189 rfl mfX7_addBatch rfl lkX10_86 (mm_ks kd_21) rfl (mm_ltq kd_21) ⟨Nat.le_of_ble_eq_true rfl, Nat.le_of_ble_eq_true rfl⟩ (Nat.le_of_ble_eq_true rfl) (fun z => z) (rX7_addBatch (q := (352, 7, mh_D h65, mh_R h65)) 21 0 20 3 10 x76.2 kd_21) (fun x78 e79 => Or.inl ⟨_, _, rfl, fun z => z, ?_⟩)
  show mm_E2 _ _ _ _ _ [.int x78.1] x78.2 _ _
  refine me_pop (pc' := 193) dX10_init_192 rfl rfl ?_
  refine me_aload_n (pc' := 194) (i := 0) dX10_init_193 rfl rfl rfl ?_
  refine me_getR (pc' := 197) (q' := 21) dX10_init_194 rfl fkX10_45 (mm_ks kd_0) (mm_ltq kd_0) rfl (mrX10_5 kd_0) ?_
  refine me_iconst (pc' := 198) (v := 1) dX10_init_197 rfl kc_i1 ?_
  refine me_bipush (pc' := 200) (v := 100) dX10_init_198 rfl kc_b100 ?_
  refine me_sipush (pc' := 203) (v := 200) dX10_init_200 rfl kc_s200 ?_
  refine me_iconst (pc' := 204) (v := 4) dX10_init_203 rfl kc_i4 ?_
  refine me_callV (As := [.int 1, .int 100, .int 200, .int 4]) (st := []) (F' := (mm_Sq (352, 7, mh_D h65, mh_R h65))) (G' := (mm_Sq (352, 7, mh_D h65, mh_R h65))) (F'' := (mm_Sq (352, 7, mh_D h65, mh_R h65))) (pc' := 207) dX10_init_204 rfl mfX7_addBatch rfl lkX10_86 (mm_ks kd_21) rfl (mm_ltq kd_21) ⟨Nat.le_of_ble_eq_true rfl, Nat.le_of_ble_eq_true rfl⟩ (Nat.le_of_ble_eq_true rfl) (fun z => z) (rX7_addBatch (q := (352, 7, mh_D h65, mh_R h65)) 21 1 100 200 4 x78.2 kd_21) (fun x80 e81 => Or.inl ⟨_, _, rfl, fun z => z, ?_⟩)
  show mm_E2 _ _ _ _ _ [.int x80.1] x80.2 _ _
  refine me_pop (pc' := 208) dX10_init_207 rfl rfl ?_
  refine me_aload_n (pc' := 209) (i := 0) dX10_init_208 rfl rfl rfl ?_
  refine me_getR (pc' := 212) (q' := 21) dX10_init_209 rfl fkX10_45 (mm_ks kd_0) (mm_ltq kd_0) rfl (mrX10_5 kd_0) ?_
  refine me_iconst (pc' := 213) (v := 2) dX10_init_212 rfl kc_i2 ?_
  refine me_bipush (pc' := 215) (v := 24) dX10_init_213 rfl kc_b24 ?_
  refine me_bipush (pc' := 217) (v := 9) dX10_init_215 rfl kc_b9 ?_
  refine me_iconst (pc' := 218) (v := 3) dX10_init_217 rfl kc_i3 ?_
  refine me_callV (As := [.int 2, .int 24, .int 9, .int 3]) (st := []) (F' := (mm_Sq (352, 7, mh_D h65, mh_R h65))) (G' := (mm_Sq (352, 7, mh_D h65, mh_R h65))) (F'' := (mm_Sq (352, 7, mh_D h65, mh_R h65))) (pc' := 221) dX10_init_218 rfl mfX7_addBatch rfl lkX10_86 (mm_ks kd_21) rfl (mm_ltq kd_21) ⟨Nat.le_of_ble_eq_true rfl, Nat.le_of_ble_eq_true rfl⟩ (Nat.le_of_ble_eq_true rfl) (fun z => z) (rX7_addBatch (q := (352, 7, mh_D h65, mh_R h65)) 21 2 24 9 3 x80.2 kd_21) (fun x82 e83 => Or.inl ⟨_, _, rfl, fun z => z, ?_⟩)
  show mm_E2 _ _ _ _ _ [.int x82.1] x82.2 _ _
  refine me_pop (pc' := 222) dX10_init_221 rfl rfl ?_
  refine mm_sw (F' := mm_K) (fun z => z) (fun c84 => ?_)
  exact me_vret dX10_init_222 rfl (fun z => z) rfl
end MMO

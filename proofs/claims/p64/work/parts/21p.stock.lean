section MMUP
/-! the law's own Stock: the constructor -/
theorem foX11_18 : mm_fk1 RX11 18 11 0 := ⟨RX11, TX11, 5, rfl, rfl, inRX11, by decide, (mm_gw_of (List.mem_of_getElem? (i := 891) (by decide +kernel)) rfl)⟩
theorem pfX11_0 : ∀ C T N, mm_cl[11]? = some (C, T, N) → (T 0).2.2.2 = true ∧ (T 0).1 = RX11 ∧ (∃ ty, parseFieldDescriptor (T 0).2.2.1 = some ty ∧ ∀ a, narrow ty (.ref a) = .ref a ∧ fits ty (.ref a) = true) ∧ (∃ ty0 : Nat → FieldType, ∀ k, k < N → parseFieldDescriptor (T k).2.2.1 = some (ty0 k)) ∧ ∀ a, a < N → ∀ b, b < N → a ≠ b → (T a).2.1 ≠ (T b).2.1 := by
  intro C T N h
  cases h
  exact ⟨rfl, rfl, ⟨tyX11 0, by decide +kernel, fun a => ⟨rfl, rfl⟩⟩, ⟨tyX11, tyX11_ok⟩, nmX11⟩
theorem foX11_7 : mm_fk1 RX11 7 11 1 := ⟨RX11, TX11, 5, rfl, rfl, inRX11, by decide, (mm_gw_of (List.mem_of_getElem? (i := 892) (by decide +kernel)) rfl)⟩
theorem pfX11_1 : ∀ C T N, mm_cl[11]? = some (C, T, N) → (T 1).2.2.2 = true ∧ (T 1).1 = RX11 ∧ (∃ ty, parseFieldDescriptor (T 1).2.2.1 = some ty ∧ ∀ a, narrow ty (.ref a) = .ref a ∧ fits ty (.ref a) = true) ∧ (∃ ty0 : Nat → FieldType, ∀ k, k < N → parseFieldDescriptor (T k).2.2.1 = some (ty0 k)) ∧ ∀ a, a < N → ∀ b, b < N → a ≠ b → (T a).2.1 ≠ (T b).2.1 := by
  intro C T N h
  cases h
  exact ⟨rfl, rfl, ⟨tyX11 1, by decide +kernel, fun a => ⟨rfl, rfl⟩⟩, ⟨tyX11, tyX11_ok⟩, nmX11⟩
theorem foX11_15 : mm_fk1 RX11 15 11 2 := ⟨RX11, TX11, 5, rfl, rfl, inRX11, by decide, (mm_gw_of (List.mem_of_getElem? (i := 894) (by decide +kernel)) rfl)⟩
theorem pfX11_2 : ∀ C T N, mm_cl[11]? = some (C, T, N) → (T 2).2.2.2 = true ∧ (T 2).1 = RX11 ∧ (∃ ty, parseFieldDescriptor (T 2).2.2.1 = some ty ∧ ∀ a, narrow ty (.ref a) = .ref a ∧ fits ty (.ref a) = true) ∧ (∃ ty0 : Nat → FieldType, ∀ k, k < N → parseFieldDescriptor (T k).2.2.1 = some (ty0 k)) ∧ ∀ a, a < N → ∀ b, b < N → a ≠ b → (T a).2.1 ≠ (T b).2.1 := by
  intro C T N h
  cases h
  exact ⟨rfl, rfl, ⟨tyX11 2, by decide +kernel, fun a => ⟨rfl, rfl⟩⟩, ⟨tyX11, tyX11_ok⟩, nmX11⟩
theorem alX11_13 : Cond.classLink RX11 13 "[[I" ∈ mm_gw := (mm_gw_of (List.mem_of_getElem? (i := 889) (by decide +kernel)) rfl)
def ms_S (h : mm_H) (o : Nat) : mm_H := ms_R (ms_R (ms_M (ms_R (ms_K h 20 1 20) o 1 (some (o + 1)))) o 2 (some (o + 2))) o 0 (some 0)
theorem rX11_init {h : mm_H} {o : Nat} (h0 : 352 ≤ o) (hn : mh_n h = o + 1) (hk : mm_kk h o = (0, 11)) (hlt : o + 13 ≤ mm_NN) : mm_R2 mm_K mm_K mX11_init [.ref o, .ref 0] h (some (ms_S h o)) lf_v := by
  have k1 : mm_kk (ms_K h 20 1 20) o = (0, 11) := by
    unfold mm_kk at hk ⊢
    rw [if_neg (by omega)] at hk ⊢
    show ((if o = mh_n h then _ else mh_D h o 0), (if o = mh_n h then _ else mh_D h o 1)) = (0, 11)
    rw [if_neg (by omega), if_neg (by omega)]
    exact hk
  have k2 : mm_kk (ms_M (ms_R (ms_K h 20 1 20) o 1 (some (o + 1)))) o = (0, 11) := by
    unfold mm_kk at k1 ⊢
    rw [if_neg (by omega)] at k1 ⊢
    have e1 : mh_n (ms_R (ms_K h 20 1 20) o 1 (some (o + 1))) = o + 2 := congrArg (· + 1) hn
    show ((if o = mh_n (ms_R (ms_K h 20 1 20) o 1 (some (o + 1))) then _ else if mh_n (ms_R (ms_K h 20 1 20) o 1 (some (o + 1))) < o ∧ o ≤ mh_n (ms_R (ms_K h 20 1 20) o 1 (some (o + 1))) + 10 then _ else mh_D (ms_K h 20 1 20) o 0), (if o = mh_n (ms_R (ms_K h 20 1 20) o 1 (some (o + 1))) then _ else if mh_n (ms_R (ms_K h 20 1 20) o 1 (some (o + 1))) < o ∧ o ≤ mh_n (ms_R (ms_K h 20 1 20) o 1 (some (o + 1))) + 10 then _ else mh_D (ms_K h 20 1 20) o 1)) = (0, 11)
    rw [e1, if_neg (by omega), if_neg (by omega), if_neg (by omega), if_neg (by omega)]
    exact k1
  have n1 : mh_n (ms_K h 20 1 20) = o + 2 := congrArg (· + 1) hn
  have n2 : mh_n (ms_R (ms_K h 20 1 20) o 1 (some (o + 1))) = o + 2 := n1
  have n3 : mh_n (ms_M (ms_R (ms_K h 20 1 20) o 1 (some (o + 1)))) = o + 13 := congrArg (· + 11) n2
  refine mm_body (L := [some (.ref o), some (.ref 0)]) rfl (by decide +kernel) (Nat.le_of_ble_eq_true rfl) rfl ?_
  refine me_aload_n (pc' := 1) (i := 0) dX11_init_0 rfl rfl rfl ?_
  refine me_objInit (pc' := 4) dX11_init_1 rfl ljX11_1 ⟨Nat.le_of_ble_eq_true rfl, Nat.le_of_ble_eq_true rfl⟩ (Nat.le_of_ble_eq_true rfl) ?_
  refine me_aload_n (pc' := 5) (i := 0) dX11_init_4 rfl rfl rfl ?_
  refine me_bipush (pc' := 7) (v := 20) dX11_init_5 rfl kc_b20 ?_
  refine me_newaIK (F' := mm_K) (pc' := 9) (N := 20) (by omega) (by omega) dX11_init_7 rfl (by decide) (by decide) (by decide) (fun z => z) (fun z => congrArg (· + 1) z) ?_
  rw [hn]
  refine me_putF (F' := mm_K) (pc' := 12) dX11_init_9 rfl foX11_7 (fun _ => k1) (fun _ => by omega) rfl rfl pfX11_1 (fun z => z) ?_
  refine me_aload_n (pc' := 13) (i := 0) dX11_init_12 rfl rfl rfl ?_
  refine me_bipush (pc' := 15) (v := 10) dX11_init_13 rfl kc_b10 ?_
  refine me_bipush (pc' := 17) (v := 20) dX11_init_15 rfl kc_b20 ?_
  refine me_multi (F' := mm_K) (pc' := 21) (by omega) (by omega) dX11_init_17 rfl alX11_13 (fun z => z) (fun z => congrArg (· + 11) z) ?_
  rw [n2]
  refine me_putF (F' := mm_K) (pc' := 24) dX11_init_21 rfl foX11_15 (fun _ => k2) (fun _ => by omega) rfl rfl pfX11_2 (fun z => z) ?_
  refine me_aload_n (pc' := 25) (i := 0) dX11_init_24 rfl rfl rfl ?_
  refine me_aload_n (pc' := 26) (i := 1) dX11_init_25 rfl rfl rfl ?_
  refine me_putF (F' := mm_K) (pc' := 29) dX11_init_26 rfl foX11_18 (fun _ => k2) (fun _ => show o < mh_n (ms_M (ms_R (ms_K h 20 1 20) o 1 (some (o + 1)))) by omega) rfl rfl pfX11_0 (fun z => z) ?_
  exact me_vret dX11_init_29 rfl (fun z => z) rfl
end MMUP

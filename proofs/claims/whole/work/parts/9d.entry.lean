section PRO
/-! the reference's constructor, and the law from its entry -/
variable {J : Nat → Nat → Int64} {D : Nat → Nat → UInt64} {I : Nat → Nat → Int32} {h : mm_H}
theorem ms_NR {x : Nat} : mh_R (ms_N h x) = mh_R h := rfl
theorem ez_N2 {e : ez_E} {x : Nat} : (ez_N e x).2 = e.2 := rfl
theorem ez_tI {e : ez_E} : mh_I (ez_t J D I e) = I := rfl
theorem ez_B_3 : ez_B.2 352 3 = some 355 := by decide +kernel
theorem ms_N_ez {e : ez_E} {x : Nat} (h1 : h.1 = e.1) (h2 : mh_R h = e.2) (h3 : mh_J h = J) (h4 : mh_D h = D) : ms_N h x = ez_t J D (mh_I h) (ez_N e x) := by
  unfold ms_N ez_t ez_N mh_n mh_c mh_w
  rw [h1, ← h2, ← h3, ← h4]
  rfl
def kc_X11 (h42 : mm_H) : Option mm_H :=
if 352 < mh_n h42 then
(some (ms_I h42 352 4 ((mm_sl 30)))).bind (fun (h44 : mm_H) =>
if mm_chk 358 7 h44 = true then
(gX11_begin h44).bind (fun (h47 : mm_H) =>
(gX11_parseSetup h47).bind (fun (x49 : (Bool × mm_H)) =>
(some (ms_I x49.2 352 4 0)).bind (fun (h51 : mm_H) =>
if mh_c h51 = mh_n h51 then
some h51 else none))) else none) else none
theorem lt_L102 {X : mm_H} (xn : mh_n X = 358) (xR : mh_R X 352 3 = some 355) : ∀ m j h2, j ≤ 135 → 135 - j < m → (∀ k, k < j → mh_I h2 355 k = nI (lt_30.2 k)) → po_fr (fun z => z == 355) X h2 →
    ∃ h', gX11_init_L102 m (nI j) h2 = kc_X11 h' ∧ (∀ k, k < 135 → mh_I h' 355 k = nI (lt_30.2 k)) ∧ po_fr (fun z => z == 355) X h' := by
  intro m
  induction m with
  | zero => intro j h2 _ h9; omega
  | succ m ih =>
    intro j h2 hj hm hb hf
    have hn : mh_n h2 = 358 := by
      show h2.1.1 = 358
      rw [hf.2.1]
      exact xn
    rw [gX11_init_L102]
    by_cases hlt : j < 135
    · rw [if_pos (show nI j < mm_sl 30 from nI_lt (b := 135) hlt (by decide)), if_pos (show 352 < mh_n h2 by rw [hn]; decide), if_pos (show mh_R h2 352 3 = some 355 by rw [hf.2.2.1]; exact xR), if_pos (show mm_ibd (nI j) (mm_sn 30) = true from po_ibd (n := 135) hlt (by decide)), if_pos (po_ibd (n := 600) (by omega) (by decide)), if_pos (show 355 < mh_n h2 by rw [hn]; decide), Option.bind_some, nI_clamp (by omega), nI_1, Option.bind_some, lt_sc j hlt]
      refine ih (j + 1) _ (by omega) (by omega) (fun k hk => ?_) (po_fr_trans hf (po_fr_I (by decide)))
      by_cases hkj : k = j
      · rw [hkj, po_I1]
      · rw [po_I4 hkj]
        exact hb k (by omega)
    · have hj5 : j = 135 := by omega
      subst hj5
      rw [if_neg (show ¬ nI 135 < mm_sl 30 from nI_nlt (a := 135) (b := 135) (Nat.le_refl _) (by decide))]
      exact ⟨h2, rfl, hb, hf⟩
theorem lt_X11 (h1 : h.1 = ez_A.1) (h2 : mh_R h = ez_A.2) (hz : ∀ o k, 352 ≤ o → o < 358 → mh_I h o k = 0) : ∃ h7, gX11_init (ms_N h 15) = some h7 ∧ h7.1 = ez_B.1 ∧ mh_R h7 = ez_B.2 ∧ (∀ o, o < 352 ∨ 358 ≤ o → ∀ k, mh_I h7 o k = mh_I h o k) ∧ ra_m lt_A h7 := by
  rw [ms_N_ez h1 h2 rfl rfl, ezl11_init, ez_B_e, Option.bind_some]
  obtain ⟨n1, n2, n3, n4⟩ := ez_B_1
  generalize hX : ez_t _ _ _ ez_B = X
  have x1 : X.1 = ez_B.1 := by rw [← hX, ez_t1]
  have xR : mh_R X = ez_B.2 := by rw [← hX, ez_tR]
  have xo : ∀ o, o ≠ 352 → ∀ k, mh_I X o k = mh_I h o k := fun o ho k => by
    rw [← hX, ez_tI]
    simp [mm_up, ho]
  have x2 : mh_I X 352 2 = 0 := by
    rw [← hX, ez_tI]
    simp [mm_up]
  have x8 : mh_I X 352 8 = 0 := by
    rw [← hX, ez_tI]
    simp [mm_up]
  clear hX
  have xn : mh_n X = 358 := by
    show X.1.1 = 358
    rw [x1]
    exact n1
  obtain ⟨a, e1, hb, fa⟩ := lt_L102 xn (by rw [xR]; exact ez_B_3) mm_F 0 X (Nat.zero_le _) (by decide) (fun k hk => absurd hk (Nat.not_lt_zero _)) (po_fr_refl X)
  rw [show gX11_init_L102 mm_F 0 X = kc_X11 a from e1]
  unfold kc_X11
  have fb : po_fr (fun z => z == 355 || z == 352) X (ms_I a 352 4 (mm_sl 30)) := po_fr_trans (po_fr_mono fa (fun z hz => (Bool.or_eq_false_iff.mp hz).1)) (po_fr_I (by decide))
  have HT : sm_T lt_30 4 355 (ms_I a 352 4 (mm_sl 30)) := ⟨po_I1, fun j hj => by rw [po_I3 (by decide)]; exact hb j hj⟩
  obtain ⟨b, e2, H2, g5, g6, f2, c4⟩ := tm_begin HT (by decide) lt_30_b
  rw [if_pos (show 352 < mh_n a by rw [show mh_n a = mh_n X from congrArg (·.1) fa.2.1, xn]; decide), Option.bind_some, if_pos (mm_chk_ez (fb.2.1.trans x1) (fb.2.2.1.trans xR) n4), e2, Option.bind_some]
  have hck := lt_chk
  rcases tm_setup H2 with ⟨C, S, s1, s2, s3, s4, u, e3, HC, HS, f3⟩ | ⟨e, s1, _⟩
  · rw [s1] at hck
    obtain ⟨q1, q2⟩ := Bool.and_eq_true_iff.mp hck
    have HC1 := lt_mC q1 HC
    have HS1 := lt_mS q2 HS
    rw [e3, Option.bind_some, Option.bind_some]
    have F : po_fr (fun z => (z == 355 || z == 352) || po_mm z) X (ms_I u 352 4 0) := po_fr_trans (po_fr_mono fb (fun z hz => (Bool.or_eq_false_iff.mp hz).1)) (po_fr_trans (po_fr_mono f2.1 (fun z hz => (Bool.or_eq_false_iff.mp hz).2)) (po_fr_trans (po_fr_mono f3.1 (fun z hz => (Bool.or_eq_false_iff.mp hz).2)) (po_fr_I (by decide))))
    have F1 : (ms_I u 352 4 0).1 = ez_B.1 := F.2.1.trans x1
    rw [if_pos (show mh_c (ms_I u 352 4 0) = mh_n (ms_I u 352 4 0) by unfold mh_c mh_n; rw [F1]; exact n2.trans n1.symm)]
    have old : ∀ k, (k = 2 ∨ k = 8) → mh_I (ms_I u 352 4 0) 352 k = 0 := fun k hk => by
      rw [po_I4 (by omega), f3.2.1 k (by omega), f2.2.1 k (by omega), po_I4 (by omega), fa.1 352 (by decide)]
      rcases hk with rfl | rfl
      · exact x2
      · exact x8
    refine ⟨_, rfl, F1, F.2.2.1.trans xR, fun o ho k => ?_, ⟨sm_C_blk lt_Cok HC1 (fun j _ => po_I3 (by decide)), sm_blk lt_Sok HS1 (fun j _ => po_I3 (by decide))⟩, ⟨⟨old 2 (Or.inl rfl), fun i S hi => (by cases hi)⟩, fun k hk => ⟨?_, fun S hS => (by cases hS)⟩⟩, ⟨⟨po_I1, fun j hj => absurd hj (Nat.not_lt_zero _)⟩, ⟨old 8 (Or.inr rfl), fun j hj => absurd hj (Nat.not_lt_zero _)⟩⟩, ?_, ?_⟩
    · rw [F.1 o (by unfold po_mm; simp; omega) k]
      exact xo o (by omega) k
    · rw [F.1 354 (by decide) k, xo 354 (by decide), hz 354 k (by decide) (by decide)]
      exact ⟨fun w => absurd rfl w, fun w => by cases w⟩
    · rw [po_I4 (by decide), f3.2.1 5 (by decide)]
      exact g5
    · rw [po_I4 (by decide), f3.2.1 6 (by decide)]
      exact g6
  · rw [s1] at hck
    cases hck
theorem ra_c_of {A : sp_A} {h' : mm_H} (H : ra_c A h) (hI : ∀ o, o < 352 → ∀ k, mh_I h' o k = mh_I h o k) : ra_c A h' := by
  have := ra_c_fr (D := fun q => decide (352 ≤ q)) (h' := (h.1, mh_I h', mh_R h, mh_J h, mh_D h)) H ⟨fun o ho k => hI o (by have : ¬ 352 ≤ o := of_decide_eq_false ho; omega) k, rfl, rfl, rfl, rfl⟩ (fun q hq => decide_eq_false (by omega))
  exact ra_c_X this rfl
theorem ms_N_1 {e : ez_E} {x : Nat} (h1 : h.1 = e.1) : (ms_N h x).1 = (ez_N e x).1 := by
  unfold ms_N ez_N mh_n mh_c mh_w
  rw [h1]
/-- the law, from its entry, returns true -/
theorem lt_entry {N : Nat} (hN : N ≤ 3072) (h0 : I 360 0 = nI N) (hz : ∀ o k, o < 360 → I o k = 0) : ∃ h', gL_entry (ez_t J D I ez_0) = some (true, h') ∧ mh_n h' = 360 ∧ mh_c h' ≤ 872 ∧ mh_w h' ≤ 43072 := by
  obtain ⟨h3, e3, a1, a2, a3, a4, a5, a6⟩ := lt_X10 (J := J) (D := D) (I := I) (fun o k ho => hz o k (by omega))
  have z3 : ∀ o k, 352 ≤ o → o < 360 → mh_I h3 o k = 0 := fun o k h1 h2 => (a5 o h1 k).trans (hz o k h2)
  obtain ⟨h7, e7, b1, b2, b3, b4⟩ := lt_X11 a1 a2 (fun o k h1 h2 => z3 o k h1 (by omega))
  obtain ⟨n1, _, _, _⟩ := ez_A_1
  obtain ⟨m1, _, _, _⟩ := ez_B_1
  obtain ⟨c1, c2, c3, c4⟩ := ez_C_1
  have hn3 : mh_n h3 = 352 := by
    show h3.1.1 = 352
    rw [a1]
    exact n1
  have hn7 : mh_n h7 = 358 := by
    show h7.1.1 = 358
    rw [b1]
    exact m1
  have q1 : (ms_N (ms_N h7 1) 1).1 = ez_C.1 := ms_N_1 (e := ez_N ez_B 1) (ms_N_1 b1)
  have q2 : mh_R (ms_N (ms_N h7 1) 1) = ez_C.2 := by rw [ms_NR, ms_NR, ez_C, ez_N2, ez_N2]; exact b2
  have Hc : ra_c lt_A (ms_N (ms_N h7 1) 1) := ra_c_of a6 (fun o ho k => b3 o (Or.inl ho) k)
  have Hm : ra_m lt_A (ms_N (ms_N h7 1) 1) := ra_m_fw b4 lt_Aok (fun q hq k => rfl)
  have r0 : mh_I (ms_N (ms_N h7 1) 1) 360 0 = nI N := (b3 360 (Or.inr (by decide)) 0).trans ((a5 360 (by decide) 0).trans h0)
  obtain ⟨h', l1, l2, l3, l4⟩ := lw_loop hN 512 mm_F 0 _ lt_A ⟨lt_Aok, Hc, Hm⟩ r0 (by omega) (by decide) (by decide)
  have k1 : mh_n (ms_N (ms_N h7 1) 1) = 360 := by
    show (ms_N (ms_N h7 1) 1).1.1 = 360
    rw [q1]
    exact c1
  have k2 : mh_c (ms_N (ms_N h7 1) 1) = 360 := by
    show (ms_N (ms_N h7 1) 1).1.2.1 = 360
    rw [q1]
    exact c2
  have k3 : mh_w (ms_N (ms_N h7 1) 1) ≤ 40000 := by
    show (ms_N (ms_N h7 1) 1).1.2.2 ≤ 40000
    rw [q1]
    exact c3
  refine ⟨h', ?_, l2.trans k1, by omega, by omega⟩
  unfold gL_entry
  rw [if_pos (show mh_n (ez_t J D I ez_0) = 0 from rfl), Option.bind_some, show ms_N (ez_t J D I ez_0) 11 = ez_t J D I (ez_N ez_0 11) from rfl, e3, Option.bind_some, if_pos hn3, Option.bind_some, e7, Option.bind_some, if_pos hn7, Option.bind_some, if_pos (show mh_n (ms_N h7 1) = 359 by show mh_n h7 + 1 = 359; rw [hn7]), Option.bind_some, if_pos (mm_chk_ez q1 q2 c4)]
  exact l1
end PRO

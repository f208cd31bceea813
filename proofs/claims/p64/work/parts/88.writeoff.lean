section PPM2
/-! the law's write-off -/
variable {A : sp_A} {o : Nat} {h : mm_H}
theorem lw_L500 {u1 u2 g : Int32} {b : Nat} {a : Nat → Nat} (ok : sa_ok A) (ho : 352 ≤ o) (hb : b < sp_nb (sa_S A)) (k : Int32 → mm_H → Option ((Bool ⊕ String) × mm_H)) : ∀ d n r h, ra_c A h → mh_I h o 4 = nI (sp_nr (sa_S A)) → (∀ x, x < r → mh_I h (o + 3 + x) b = nI (if sp_r (sa_S A) x 3 = 0 then 0 else a x)) → (∀ x, r ≤ x → x < sp_nr (sa_S A) → mh_I h (o + 3 + x) b = nI (a x)) → r + d = sp_nr (sa_S A) → d < n →
    ∃ h', gL_law_L500 o u1 u2 g (nI b) k n (nI r) h = k g h' ∧ (∀ x, x < sp_nr (sa_S A) → mh_I h' (o + 3 + x) b = nI (if sp_r (sa_S A) x 3 = 0 then 0 else a x)) ∧ so_cl o b h h' := by
  have hn9 := ok.1.2.1.2.2
  have hm9 := ok.1.2.1.2.1
  intro d
  induction d with
  | zero =>
    intro n r h H e4 h1 h2 hd hn
    obtain ⟨m, rfl⟩ : ∃ m, n = m + 1 := ⟨n - 1, by omega⟩
    refine ⟨h, ?_, fun x hx => h1 x (by omega), fun _ _ _ => rfl, po_fr_refl h⟩
    rw [gL_law_L500, e4, if_neg (nI_nlt (by omega) (by omega))]
  | succ d ih =>
    intro n r h H e4 h1 h2 hd hn
    obtain ⟨m, rfl⟩ : ∃ m, n = m + 1 := ⟨n - 1, by omega⟩
    have hr : r < sp_nr (sa_S A) := by omega
    have f1 : po_fr po_ow h (ms_I h (o + 3 + r) b (nI (if sp_r (sa_S A) r 3 = 0 then 0 else a r))) := po_fr_I (decide_eq_true (by omega))
    have H1 := ra_c_ow H f1
    obtain ⟨h', g1, g2, g3, g4⟩ := ih m (r + 1) _ H1 ((po_I3 (by omega)).trans e4) (fun x hx => by
      by_cases hxr : x = r
      · rw [hxr, po_I1]
      · rw [po_I3 (by omega)]
        exact h1 x (by omega)) (fun x hx hx2 => by
      rw [po_I3 (by omega)]
      exact h2 x (by omega) hx2) (by omega) (by omega)
    refine ⟨h', ?_, g2, fun q j hq => ?_, po_fr_trans f1 g4⟩
    · have b20 : mm_ibd (nI b) 20 = true := po_ibd (by omega) (by decide)
      have r10 : mm_ibd (nI r) 10 = true := po_ibd (by omega) (by decide)
      rw [gL_law_L500, e4, if_pos (nI_lt hr (by omega)), if_pos r10, cq_isOpen H ok hr, Option.bind_some]
      dsimp only
      refine po_jn (fun k1 e1 => ?_)
      have fin : ∀ v : Int32, v = nI (if sp_r (sa_S A) r 3 = 0 then 0 else a r) → k1 v (nI b) = k g h' := fun v hv => by
        rw [e1, hv]
        dsimp only
        rw [if_pos b20, Option.bind_some, Option.bind_some, nI_clamp (show r < 2 ^ 31 by omega), nI_clamp (show b < 2 ^ 31 by omega), nI_1]
        exact g1
      by_cases h3 : sp_r (sa_S A) r 3 = 0
      · rw [if_pos (decide_eq_true h3)]
        exact fin 0 (by rw [if_pos h3]; rfl)
      · rw [if_neg (by rw [decide_eq_false h3]; decide), if_pos r10, if_pos b20, nI_clamp (show r < 2 ^ 31 by omega), nI_clamp (show b < 2 ^ 31 by omega), h2 r (Nat.le_refl r) hr]
        exact fin _ (by rw [if_neg h3])
    · rw [g3 q j hq]
      rcases hq with hq | hq
      · exact po_I3 (by omega)
      · by_cases hqr : q = o + 3 + r
        · rw [hqr]
          exact po_I4 hq
        · exact po_I3 hqr
theorem lw_L449 {u1 u2 : Int32} (ok : sa_ok A) (ho : 352 ≤ o) (k : Int32 → mm_H → Option ((Bool ⊕ String) × mm_H)) : ∀ d n b h, ra_c A h → so_S (sp_wos (sa_S A) b) o h → b + d = sp_nb (sa_S A) → d < n →
    ∃ h', gL_law_L449 o u1 u2 k n (nI (sp_sum (fun b => if sp_b (sa_S A) b 2 < sp_dy (sa_S A) then sp_b (sa_S A) b 1 else 0) b)) (nI b) h = k (nI (sp_wosum (sa_S A))) h' ∧ so_S (sp_wo (sa_S A)) o h' ∧ po_fr po_ow h h' := by
  have hn9 := ok.1.2.1.2.2
  have hm9 := ok.1.2.1.2.1
  have hdy := ok.1.2.1.1
  intro d
  induction d with
  | zero =>
    intro n b h H K hd hn
    obtain ⟨m, rfl⟩ : ∃ m, n = m + 1 := ⟨n - 1, by omega⟩
    obtain rfl : b = sp_nb (sa_S A) := by omega
    have k1 : mh_I h o 3 = nI (sp_nb (sa_S A)) := K.1.trans (congrArg nI (sp_wos_nb _ _))
    refine ⟨h, ?_, K, po_fr_refl h⟩
    rw [gL_law_L449, k1, if_neg (nI_nlt (Nat.le_refl _) (by omega))]
    rfl
  | succ d ih =>
    intro n b h H K hd hn
    obtain ⟨m, rfl⟩ : ∃ m, n = m + 1 := ⟨n - 1, by omega⟩
    have hb : b < sp_nb (sa_S A) := by omega
    obtain ⟨q1, q2, q3, q4, q5⟩ := ok.1.2.2.1 b hb
    obtain ⟨s1, s2, s3⟩ := sp_wos_same (sa_S A) b
    have k1 : mh_I h o 3 = nI (sp_nb (sa_S A)) := K.1.trans (congrArg nI (sp_wos_nb _ _))
    have k2 : mh_I h o 4 = nI (sp_nr (sa_S A)) := K.2.1.trans (congrArg nI (sp_wos_nr _ _))
    have k3 : ∀ x, x < sp_nb (sa_S A) → mh_I h (o + 1) x = nI (sp_b (sp_wos (sa_S A) b) x 1) := fun x hx => K.2.2.1 x (by rw [sp_wos_nb]; exact hx)
    have k4 : ∀ r, r < sp_nr (sa_S A) → ∀ x, x < sp_nb (sa_S A) → mh_I h (o + 3 + r) x = nI (sp_al (sp_wos (sa_S A) b) r x) := fun r hr x hx => K.2.2.2 r (by rw [sp_wos_nr]; exact hr) x (by rw [sp_wos_nb]; exact hx)
    have eb : sp_b (sp_wos (sa_S A) b) b 1 = sp_b (sa_S A) b 1 := s2 b 1 (Or.inr (Nat.le_refl b))
    have e3 : ∀ r, sp_r (sp_wos (sa_S A) b) r 3 = sp_r (sa_S A) r 3 := fun r => congrFun (congrFun s3 r) 3
    have b20 : mm_ibd (nI b) 20 = true := po_ibd (by omega) (by decide)
    by_cases hex : sp_b (sa_S A) b 2 < sp_dy (sa_S A)
    · have hwos : sp_wos (sa_S A) (b + 1) = sp_wo1 (sp_wos (sa_S A) b) b := by rw [sp_wos, if_pos hex]
      have f1 : po_fr po_ow h (ms_I h (o + 1) b 0) := po_fr_I (decide_eq_true (by omega))
      have H1 := ra_c_ow H f1
      obtain ⟨h2, g1, g2, g3, g4⟩ := lw_L500 (u1 := u1) (u2 := u2) (g := nI (sp_sum (fun b => if sp_b (sa_S A) b 2 < sp_dy (sa_S A) then sp_b (sa_S A) b 1 else 0) b + sp_b (sa_S A) b 1)) (a := fun r => sp_al (sp_wos (sa_S A) b) r b) ok ho hb (fun (y119 : Int32) (h120 : mm_H) => (some (nI b + 1)).bind (fun (x122 : Int32) => gL_law_L449 o u1 u2 k m y119 x122 h120)) (sp_nr (sa_S A)) mm_F 0 _ H1 ((po_I3 (by omega)).trans k2) (fun x hx => by omega) (fun x _ hx => (po_I3 (by omega)).trans (k4 x hx b hb)) (by omega) (Nat.lt_of_le_of_lt hn9 (by decide))
      have H2 := ra_c_ow H1 g4
      have K2 : so_S (sp_wos (sa_S A) (b + 1)) o h2 := by
        rw [hwos]
        refine ⟨?_, ?_, fun x hx => ?_, fun r hr x hx => ?_⟩
        · rw [g3 o 3 (Or.inl (by omega)), po_I3 (by omega), k1]
          exact congrArg nI (sp_wos_nb _ _).symm
        · rw [g3 o 4 (Or.inl (by omega)), po_I3 (by omega), k2]
          exact congrArg nI (sp_wos_nr _ _).symm
        · have hx' : x < sp_nb (sp_wos (sa_S A) b) := hx
          rw [sp_wos_nb] at hx'
          rw [g3 (o + 1) x (Or.inl (by omega))]
          show _ = nI (if x = b ∧ 1 = 1 then 0 else sp_b (sp_wos (sa_S A) b) x 1)
          by_cases hxb : x = b
          · rw [hxb, po_I1, if_pos ⟨rfl, rfl⟩]
            rfl
          · rw [po_I4 hxb, if_neg (fun z => hxb z.1)]
            exact k3 x hx'
        · have hx' : x < sp_nb (sp_wos (sa_S A) b) := hx
          have hr' : r < sp_nr (sp_wos (sa_S A) b) := hr
          rw [sp_wos_nb] at hx'
          rw [sp_wos_nr] at hr'
          show _ = nI (if x = b ∧ sp_r (sp_wos (sa_S A) b) r 3 = 0 then 0 else sp_al (sp_wos (sa_S A) b) r x)
          rw [e3]
          by_cases hxb : x = b
          · rw [hxb, g2 r hr']
            by_cases h3 : sp_r (sa_S A) r 3 = 0
            · rw [if_pos h3, if_pos ⟨rfl, h3⟩]
            · rw [if_neg h3, if_neg (fun z => h3 z.2)]
          · rw [g3 _ _ (Or.inr hxb), po_I3 (by omega), if_neg (fun z => hxb z.1)]
            exact k4 r hr' x hx'
      obtain ⟨h3, w1, w2, w3⟩ := ih m (b + 1) h2 H2 K2 (by omega) (by omega)
      refine ⟨h3, ?_, w2, po_fr_trans f1 (po_fr_trans g4 w3)⟩
      rw [gL_law_L449, k1, if_pos (nI_lt hb (by omega)), cq_expiryDay H ok hb, Option.bind_some]
      dsimp only
      rw [cq_day H, Option.bind_some]
      refine po_jn (fun j e1 => ?_)
      rw [if_pos (nI_lt hex (by omega)), if_pos b20, Option.bind_some, if_pos b20, Option.bind_some, nI_clamp (show b < 2 ^ 31 by omega), k3 b hb, eb, nI_add, e1]
      have g1' := g1
      rw [show nI 0 = 0 from rfl] at g1'
      rw [g1', Option.bind_some, nI_1]
      have ws : sp_sum (fun b => if sp_b (sa_S A) b 2 < sp_dy (sa_S A) then sp_b (sa_S A) b 1 else 0) (b + 1) = sp_sum (fun b => if sp_b (sa_S A) b 2 < sp_dy (sa_S A) then sp_b (sa_S A) b 1 else 0) b + sp_b (sa_S A) b 1 := by rw [sp_sum, if_pos hex]
      rw [ws] at w1
      exact w1
    · have hwos : sp_wos (sa_S A) (b + 1) = sp_wos (sa_S A) b := by rw [sp_wos, if_neg hex]
      obtain ⟨h3, w1, w2, w3⟩ := ih m (b + 1) h H (by rw [hwos]; exact K) (by omega) (by omega)
      refine ⟨h3, ?_, w2, w3⟩
      rw [gL_law_L449, k1, if_pos (nI_lt hb (by omega)), cq_expiryDay H ok hb, Option.bind_some]
      dsimp only
      rw [cq_day H, Option.bind_some]
      refine po_jn (fun j e1 => ?_)
      rw [if_neg (nI_nlt (by omega) (by omega)), e1]
      dsimp only
      rw [Option.bind_some, nI_1]
      have ws : sp_sum (fun b => if sp_b (sa_S A) b 2 < sp_dy (sa_S A) then sp_b (sa_S A) b 1 else 0) (b + 1) = sp_sum (fun b => if sp_b (sa_S A) b 2 < sp_dy (sa_S A) then sp_b (sa_S A) b 1 else 0) b := by rw [sp_sum, if_neg hex, Nat.add_zero]
      rw [ws] at w1
      exact w1
end PPM2

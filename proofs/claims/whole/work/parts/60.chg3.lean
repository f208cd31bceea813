section PQF
variable {A : sp_A} {h : mm_H}
theorem po_one (x y : Int32) : (x = y) ∨ ¬ x = y := Decidable.em _
/-! reserve -/
/-- the end of the reference's reserve -/
def fr_K (p0 p1 p2 : Int32) (h : mm_H) (y18 y19 y20 : Int32) : Option (Int32 × mm_H) :=
(gX11_fails y20 y19 y18 h).bind (fun (x23 : (Bool × mm_H)) =>
if x23.1 = true then
some (0, x23.2)
else
(gX11_remember 0 x23.2).bind (fun (h26 : mm_H) =>
(gX11_reserveIt p0 p1 p2 h26).bind (fun (x28 : (Int32 × mm_H)) =>
some (x28.1, x28.2))))
theorem fr_reserve (p0 p1 p2 : Int32) (h : mm_H) : gX11_reserve p0 p1 p2 h = (gX11_in p1 1 9999 h).bind (fun (x1 : Bool) =>
mm_jn (fun (y3 : Int32) =>
(gX11_isProduct p0 h).bind (fun (x5 : Bool) =>
mm_jn (fun (y7 : Int32) =>
(gX11_isProduct p0 h).bind (fun (x9 : Bool) =>
mm_jn (fun (y11 : Int32) =>
mm_jn (fun (y14 : Int32) (y15 : Int32) =>
mm_jn (fr_K p0 p1 p2 h) (fun (j22 : Int32 → Int32 → Int32 → Option (Int32 × mm_H)) =>
mm_jn (fun (y30 : Int32) (y31 : Int32) =>
j22 0 y30 y31) (fun (j33 : Int32 → Int32 → Option (Int32 × mm_H)) =>
if y7 = 0 then
j33 y14 y15
else
(gX11_canReserve p0 p1 p2 h).bind (fun (x35 : Bool) =>
if x35 = true then
j33 y14 y15
else
j22 1 y14 y15)))) (fun (j17 : Int32 → Int32 → Option (Int32 × mm_H)) =>
if y3 = 0 then
j17 1 y11
else
j17 0 y11)) (fun (j13 : Int32 → Option (Int32 × mm_H)) =>
if x9 = true then
j13 0
else
j13 1))) (fun (j8 : Int32 → Option (Int32 × mm_H)) =>
mm_jn (fun (_ : Unit) =>
j8 0) (fun (j40 : Unit → Option (Int32 × mm_H)) =>
if x5 = true then
if y3 = 0 then
j40 ()
else
j8 1
else
j40 ())))) (fun (j4 : Int32 → Option (Int32 × mm_H)) =>
mm_jn (fun (_ : Unit) =>
j4 0) (fun (j43 : Unit → Option (Int32 × mm_H)) =>
if x1 = true then
if mm_ibd 0 4200 = true then
(gX11_in p2 ((mh_I h 353 (Int32.toNatClampNeg (0)))) 9999 h).bind (fun (x46 : Bool) =>
if x46 = true then
j4 1
else
j43 ()) else none
else
j43 ()))) := rfl
theorem po_jn {α τ : Type} {k : α} {b : α → τ} {r : τ} (h : ∀ k', k' = k → b k' = r) : mm_jn k b = r := h k rfl
theorem fr_A {x y z d : Int32} {b : Bool} (hy : gX11_in y 1 9999 h = some true) (hd : mh_I h 353 (Int32.toNatClampNeg 0) = d) (hz : gX11_in z d 9999 h = some true) (hx : gX11_isProduct x h = some true) (hc : gX11_canReserve x y z h = some b) : gX11_reserve x y z h = fr_K x y z h (if b = true then 0 else 1) 0 0 := by
  rw [fr_reserve, hy, Option.bind_some]
  refine po_jn (fun k1 e1 => ?_)
  refine po_jn (fun k2 e2 => ?_)
  rw [if_pos rfl, if_pos po_m0, hd, hz, Option.bind_some, if_pos rfl, e1]
  dsimp only
  rw [hx, Option.bind_some]
  refine po_jn (fun k3 e3 => ?_)
  refine po_jn (fun k4 e4 => ?_)
  rw [if_pos rfl, if_neg (show ¬ (1 : Int32) = 0 by decide), e3]
  dsimp only
  rw [Option.bind_some]
  refine po_jn (fun k5 e5 => ?_)
  rw [if_pos rfl, e5]
  dsimp only
  refine po_jn (fun k6 e6 => ?_)
  rw [if_neg (show ¬ (1 : Int32) = 0 by decide), e6]
  dsimp only
  refine po_jn (fun k7 e7 => ?_)
  refine po_jn (fun k8 e8 => ?_)
  rw [if_neg (show ¬ (1 : Int32) = 0 by decide), hc, Option.bind_some]
  cases b
  · rw [if_neg (by decide), e7, if_neg (by decide)]
  · rw [if_pos rfl, e8]
    dsimp only
    rw [e7, if_pos rfl]
/-- the first join of reserve, whatever comes behind it -/
theorem fr_1 {y z : Int32} {a b : Bool} {k1 : Int32 → Option (Int32 × mm_H)} (hy : gX11_in y 1 9999 h = some a) (hz : gX11_in z (mh_I h 353 (Int32.toNatClampNeg 0)) 9999 h = some b) :
    (gX11_in y 1 9999 h).bind (fun (x1 : Bool) => mm_jn k1 (fun (j4 : Int32 → Option (Int32 × mm_H)) => mm_jn (fun (_ : Unit) => j4 0) (fun (j43 : Unit → Option (Int32 × mm_H)) =>
      if x1 = true then if mm_ibd 0 4200 = true then (gX11_in z ((mh_I h 353 (Int32.toNatClampNeg (0)))) 9999 h).bind (fun (x46 : Bool) => if x46 = true then j4 1 else j43 ()) else none else j43 ()))) = k1 (if a = true ∧ b = true then 1 else 0) := by
  rw [hy, Option.bind_some]
  refine po_jn (fun k2 e2 => ?_)
  refine po_jn (fun k3 e3 => ?_)
  rw [if_pos po_m0, hz, Option.bind_some, e3, ← e2]
  cases a
  · rw [if_neg (by decide), if_neg (fun w => absurd w.1 (by decide))]
  · rw [if_pos rfl]
    cases b
    · rw [if_neg (by decide), if_neg (fun w => absurd w.2 (by decide))]
    · rw [if_pos rfl, if_pos ⟨rfl, rfl⟩]
theorem fr_B {x y z d : Int32} (hy : gX11_in y 1 9999 h = some false ∨ (gX11_in y 1 9999 h = some true ∧ mh_I h 353 (Int32.toNatClampNeg 0) = d ∧ gX11_in z d 9999 h = some false)) (hz : ∃ b, gX11_in z (mh_I h 353 (Int32.toNatClampNeg 0)) 9999 h = some b) (hx : gX11_isProduct x h = some true) : gX11_reserve x y z h = fr_K x y z h 0 1 0 := by
  obtain ⟨b, hz⟩ := hz
  have hab : ∃ a, gX11_in y 1 9999 h = some a ∧ ¬ (a = true ∧ b = true) := by
    rcases hy with h1 | ⟨h1, h2, h3⟩
    · exact ⟨false, h1, fun w => absurd w.1 (by decide)⟩
    · refine ⟨true, h1, fun w => ?_⟩
      rw [h2, h3] at hz
      rw [← Option.some.inj hz] at w
      exact absurd w.2 (by decide)
  obtain ⟨a, ha, hab⟩ := hab
  refine (fr_reserve x y z h).trans ((fr_1 ha hz).trans ?_)
  rw [if_neg hab, hx, Option.bind_some]
  refine po_jn (fun k3 e3 => ?_)
  refine po_jn (fun k4 e4 => ?_)
  rw [if_pos rfl, if_pos rfl, e4]
  dsimp only
  rw [e3]
  dsimp only
  rw [Option.bind_some]
  refine po_jn (fun k5 e5 => ?_)
  rw [if_pos rfl, e5]
  dsimp only
  refine po_jn (fun k6 e6 => ?_)
  rw [if_pos rfl, e6]
  dsimp only
  refine po_jn (fun k7 e7 => ?_)
  refine po_jn (fun k8 e8 => ?_)
  rw [if_pos rfl, e8]
  dsimp only
  rw [e7]
theorem fr_C {x y z : Int32} {a b : Bool} (hy : gX11_in y 1 9999 h = some a) (hz : gX11_in z (mh_I h 353 (Int32.toNatClampNeg 0)) 9999 h = some b) (hx : gX11_isProduct x h = some false) : ∃ t, gX11_reserve x y z h = fr_K x y z h 0 t 1 := by
  have hw : ∃ w : Int32, (w = 0 ∨ w = 1) ∧ (if a = true ∧ b = true then (1 : Int32) else 0) = w := by
    by_cases hab : a = true ∧ b = true
    · exact ⟨1, Or.inr rfl, if_pos hab⟩
    · exact ⟨0, Or.inl rfl, if_neg hab⟩
  obtain ⟨w, hw, ew⟩ := hw
  refine ⟨if w = 0 then 1 else 0, (fr_reserve x y z h).trans ((fr_1 hy hz).trans ?_)⟩
  rw [ew, hx, Option.bind_some]
  refine po_jn (fun k3 e3 => ?_)
  refine po_jn (fun k4 e4 => ?_)
  rw [if_neg (by decide), e4]
  dsimp only
  rw [e3]
  dsimp only
  rw [Option.bind_some]
  refine po_jn (fun k5 e5 => ?_)
  rw [if_neg (by decide), e5]
  dsimp only
  refine po_jn (fun k6 e6 => ?_)
  have hk : ∀ t, k6 t 1 = fr_K x y z h 0 t 1 := fun t => by
    rw [e6]
    dsimp only
    refine po_jn (fun k7 e7 => ?_)
    refine po_jn (fun k8 e8 => ?_)
    rw [if_pos rfl, e8]
    dsimp only
    rw [e7]
  rcases hw with rfl | rfl
  · rw [if_pos rfl, if_pos rfl]
    exact hk 1
  · rw [if_neg (by decide), if_neg (by decide)]
    exact hk 0
/-- the third number against the day -/
theorem fr_z {A : sp_A} (H : ra_m A h) (ok : sa_ok A) (z : Int32) : ∃ b, gX11_in z (mh_I h 353 (Int32.toNatClampNeg 0)) 9999 h = some b := by
  have hdy := ok.2.2.2.2.2.2.1
  rw [pm_dy H.1.2]
  rcases po_cr z (a := sp_dy (sa_S A)) (b := 9999) (by decide) (by omega) with ⟨d, h3, h4, rfl⟩ | hz
  · exact ⟨_, po_in_in (z := 9999) h3 h4 (by decide) rfl rfl rfl⟩
  · exact ⟨_, po_in_no' (z := 9999) hz rfl rfl⟩
theorem rf_reserve (x y z : Int32) (ok : sa_ok A) : (∃ p q d, p < sp_np (sa_C A) ∧ (1 ≤ q ∧ q ≤ 9999 ∧ sp_dy (sa_S A) ≤ d ∧ d ≤ 9999) ∧ (sp_nr (sa_S A) < 10 ∧ q ≤ sp_av (sa_S A) p d) ∧ x = nI p ∧ y = nI q ∧ z = nI d ∧ (∀ h, ra_c A h → gX10_refusalOfReserve x y z h = some 0)) ∨
    ∃ t E, ((t = 1 ∧ E = po_IO) ∨ (t = 2 ∧ E = po_IA) ∨ (t = 3 ∧ E = po_IS)) ∧ (∀ h, ra_c A h → gX10_refusalOfReserve x y z h = some t) ∧ ∀ h, ra_m A h → gX11_reserve x y z h = some (0, ms_I h 352 9 t) := by
  have h8 := ok.1.1.1
  have hdy := ok.2.2.2.2.2.2.1
  have hr10 := ok.1.2.1.2.2
  rcases po_cs x (n := sp_np (sa_C A)) (by omega) with ⟨p, hp, rfl⟩ | hx
  · rcases po_cr y (a := 1) (b := 9999) (by decide) (by decide) with ⟨q, h1, h2, rfl⟩ | hy
    · rcases po_cr z (a := sp_dy (sa_S A)) (b := 9999) (by decide) (by omega) with ⟨d, h3, h4, rfl⟩ | hz
      · have hav := sp_av_le ok.1.2 p d
        have hc : ∀ h, ra_c A h → gX10_refusalOfReserve (nI p) (nI q) (nI d) h = if sp_nr (sa_S A) < 10 ∧ q ≤ sp_av (sa_S A) p d then some 0 else some 3 := fun h H => by
          unfold gX10_refusalOfReserve
          dsimp only [mm_jn]
          rw [pc_hasP H ok hp, Option.bind_some, if_pos rfl, po_outside_in (y := 1) (z := 9999) h1 h2 (by decide) rfl rfl rfl, Option.bind_some, if_neg (by decide), H.1.2.1.1, po_outside_in (z := 9999) h3 h4 (by decide) rfl rfl rfl, Option.bind_some, if_neg (by decide), H.1.2.1.2.2]
          by_cases hn : sp_nr (sa_S A) < 10
          · rw [if_pos (show nI (sp_nr (sa_S A)) < 10 from nI_lt hn (by decide)), pc_avail po_k21 H.1.2 ok.1.2 (by omega) (by omega), Option.bind_some]
            by_cases hq : q ≤ sp_av (sa_S A) p d
            · rw [if_neg (nI_nlt hq (by omega)), if_neg (show ¬ (1 : Int32) = 0 by decide), if_pos ⟨hn, hq⟩]
            · rw [if_pos (nI_lt (by omega) (by omega)), if_pos rfl, if_neg (fun w => hq w.2)]
          · rw [if_neg (show ¬ nI (sp_nr (sa_S A)) < 10 from nI_nlt (b := 10) (by omega) (by omega)), if_pos rfl, if_neg (fun w => hn w.1)]
        have hm : ∀ h, ra_m A h → gX11_canReserve (nI p) (nI q) (nI d) h = some (decide (sp_nr (sa_S A) < 10 ∧ q ≤ sp_av (sa_S A) p d)) := fun h H => by
          unfold gX11_canReserve
          rw [if_pos po_m3, pm_nr H.1.2]
          by_cases hn : sp_nr (sa_S A) < 10
          · rw [if_pos (show nI (sp_nr (sa_S A)) < 10 from nI_lt hn (by decide)), pm_avail H.1.2 ok.1.2 (by omega) (by omega), Option.bind_some]
            by_cases hq : q ≤ sp_av (sa_S A) p d
            · rw [if_neg (nI_nlt hq (by omega)), decide_eq_true ⟨hn, hq⟩]
            · rw [if_pos (nI_lt (by omega) (by omega)), decide_eq_false (fun w => hq w.2)]
          · rw [if_neg (show ¬ nI (sp_nr (sa_S A)) < 10 from nI_nlt (b := 10) (by omega) (by omega)), decide_eq_false (fun w => hn w.1)]
        by_cases hn : sp_nr (sa_S A) < 10 ∧ q ≤ sp_av (sa_S A) p d
        · exact Or.inl ⟨p, q, d, hp, ⟨h1, h2, h3, h4⟩, hn, rfl, rfl, rfl, fun h H => by rw [hc h H, if_pos hn]⟩
        · refine Or.inr ⟨3, po_IS, Or.inr (Or.inr ⟨rfl, rfl⟩), fun h H => by rw [hc h H, if_neg hn], fun h H => ?_⟩
          rw [fr_A (po_in_in (y := 1) (z := 9999) h1 h2 (by decide) rfl rfl rfl) (pm_dy H.1.2) (po_in_in (z := 9999) h3 h4 (by decide) rfl rfl rfl) (pm_isP H ok hp) (hm h H), if_neg (by rw [decide_eq_false hn]; decide), fr_K, po_fails_3, Option.bind_some, if_pos rfl]
      · refine Or.inr ⟨2, po_IA, Or.inr (Or.inl ⟨rfl, rfl⟩), fun h H => ?_, fun h H => ?_⟩
        · unfold gX10_refusalOfReserve
          dsimp only [mm_jn]
          rw [pc_hasP H ok hp, Option.bind_some, if_pos rfl, po_outside_in (y := 1) (z := 9999) h1 h2 (by decide) rfl rfl rfl, Option.bind_some, if_neg (by decide), H.1.2.1.1, po_outside_no (z := 9999) hz rfl rfl, Option.bind_some, if_pos rfl]
        · rw [fr_B (Or.inr ⟨po_in_in (y := 1) (z := 9999) h1 h2 (by decide) rfl rfl rfl, pm_dy H.1.2, po_in_no' (z := 9999) hz rfl rfl⟩) (fr_z H ok z) (pm_isP H ok hp), fr_K, po_fails_2, Option.bind_some, if_pos rfl]
    · refine Or.inr ⟨2, po_IA, Or.inr (Or.inl ⟨rfl, rfl⟩), fun h H => ?_, fun h H => ?_⟩
      · unfold gX10_refusalOfReserve
        dsimp only [mm_jn]
        rw [pc_hasP H ok hp, Option.bind_some, if_pos rfl, po_outside_no (y := 1) (z := 9999) hy rfl rfl, Option.bind_some, if_pos rfl]
      · rw [fr_B (d := 0) (Or.inl (po_in_no' (y := 1) (z := 9999) hy rfl rfl)) (fr_z H ok z) (pm_isP H ok hp), fr_K, po_fails_2, Option.bind_some, if_pos rfl]
  · refine Or.inr ⟨1, po_IO, Or.inl ⟨rfl, rfl⟩, fun h H => ?_, fun h H => ?_⟩
    · unfold gX10_refusalOfReserve
      dsimp only [mm_jn]
      rw [pc_hasPn H hx, Option.bind_some, if_neg (by decide)]
    · have hy : ∃ a, gX11_in y 1 9999 h = some a := by
        rcases po_cr y (a := 1) (b := 9999) (by decide) (by decide) with ⟨q, h1, h2, rfl⟩ | hy
        · exact ⟨_, po_in_in (y := 1) (z := 9999) h1 h2 (by decide) rfl rfl rfl⟩
        · exact ⟨_, po_in_no' (y := 1) (z := 9999) hy rfl rfl⟩
      have hz : ∃ b, gX11_in z (mh_I h 353 (Int32.toNatClampNeg 0)) 9999 h = some b := by
        rw [pm_dy H.1.2]
        rcases po_cr z (a := sp_dy (sa_S A)) (b := 9999) (by decide) (by omega) with ⟨d, h3, h4, rfl⟩ | hz
        · exact ⟨_, po_in_in (z := 9999) h3 h4 (by decide) rfl rfl rfl⟩
        · exact ⟨_, po_in_no' (z := 9999) hz rfl rfl⟩
      obtain ⟨a, hy⟩ := hy
      obtain ⟨b, hz⟩ := hz
      obtain ⟨w, e⟩ := fr_C hy hz (pm_isPn H ok hx)
      rw [e, fr_K, po_fails_1, Option.bind_some, if_pos rfl]
theorem pm_canRes (H : ra_m A h) (ok : sa_ok A) {p q d : Nat} (hp : p < 2 ^ 31) (hq : q ≤ 9999) (hd : d ≤ 9999) : gX11_canReserve (nI p) (nI q) (nI d) h = some (decide (sp_nr (sa_S A) < 10 ∧ q ≤ sp_av (sa_S A) p d)) := by
  have hav := sp_av_le ok.1.2 p d
  have hr10 := ok.1.2.1.2.2
  unfold gX11_canReserve
  rw [if_pos po_m3, pm_nr H.1.2]
  by_cases hn : sp_nr (sa_S A) < 10
  · rw [if_pos (show nI (sp_nr (sa_S A)) < 10 from nI_lt hn (by decide)), pm_avail H.1.2 ok.1.2 hp (by omega), Option.bind_some]
    by_cases hq : q ≤ sp_av (sa_S A) p d
    · rw [if_neg (nI_nlt hq (by omega)), decide_eq_true ⟨hn, hq⟩]
    · rw [if_pos (nI_lt (by omega) (by omega)), decide_eq_false (fun w => hq w.2)]
  · rw [if_neg (show ¬ nI (sp_nr (sa_S A)) < 10 from nI_nlt (b := 10) (by omega) (by omega)), decide_eq_false (fun w => hn w.1)]
theorem op_reserve (x y z : Int32) : op_run (lc_3 po_IO po_IA po_IS) (gX10_reserve x y z) (gX11_reserve x y z) := by
  intro A ok
  have h8 := ok.1.1.1
  rcases rf_reserve x y z ok with ⟨p, q, d, hp, ⟨h1, h2, h3, h4⟩, hn, rfl, rfl, rfl, hr⟩ | ⟨t, E, ht, hr, hm⟩
  · refine op_chg ok (S := sp_resrv (sa_S A) p q d) (v := nI (sp_nr (sa_S A))) (sp_resrv_ok ok.1.2 hn.1 (by omega) h2 h4) ok.2.2.2.2.2.2.1 (fun h h1' H e1 HS => ?_) (fun h h1' H e1 HS => ?_)
    · obtain ⟨h2', g1, g2, g3⟩ := pc_reserve po_k21 HS ok.1.2 hn.1 (show p < 8 by omega) h2 h4
      unfold gX10_reserve
      rw [hr h H, Option.bind_some, po_rf0, Option.bind_some]
      dsimp only
      rw [e1, Option.bind_some, g1, Option.bind_some]
      exact ⟨h2', rfl, g2, g3⟩
    · obtain ⟨h2', g1, g2, g3⟩ := pm_reserve HS ok.1.2 hn.1 (show p < 8 by omega) h2 h4 h3
      rw [fr_A (po_in_in (y := 1) (z := 9999) h1 h2 (by decide) rfl rfl rfl) (pm_dy H.1.2) (po_in_in (z := 9999) h3 h4 (by decide) rfl rfl rfl) (pm_isP H ok hp) (pm_canRes H ok (by omega) h2 h4), if_pos (decide_eq_true hn), fr_K, po_fails_0, Option.bind_some, if_neg Bool.false_ne_true, e1, Option.bind_some, g1, Option.bind_some]
      exact ⟨h2', rfl, g2, g3⟩
  · refine op_no ok (lc_3t ht).1 (lc_3t ht).2 (fun h H => ?_) hm
    unfold gX10_reserve
    rw [hr h H, Option.bind_some, po_rfE ht]
    rfl
/-! ship, cancel, refill -/
theorem lc_2t {t : Int32} {E : String} (ht : (t = 1 ∧ E = po_IO) ∨ (t = 2 ∧ E = po_IS)) : lc_2 po_IO po_IS E = some t ∧ ¬ t = 0 := by
  rcases ht with ⟨rfl, rfl⟩ | ⟨rfl, rfl⟩
  · exact ⟨lc_2a, by decide⟩
  · exact ⟨lc_2s, by decide⟩
theorem sp_why0 {S : sp_S} {r : Nat} (h : sp_why S r = 0) : sp_r S r 3 = 0 := by
  unfold sp_why at h
  by_cases h3 : sp_r S r 3 = 0
  · exact h3
  · rw [if_neg h3] at h
    cases h
theorem sp_why_le (S : sp_S) (r : Nat) : sp_why S r ≤ 3 := by
  unfold sp_why
  split
  · split
    · decide
    · split
      · decide
      · decide
  · decide
theorem rf_ship (x : Int32) (ok : sa_ok A) : (∃ r, r < sp_nr (sa_S A) ∧ sp_why (sa_S A) r = 0 ∧ x = nI r ∧ (∀ h, ra_c A h → gX10_refusalOfShip x h = some 0)) ∨
    ∃ t u E, ((t = 1 ∧ E = po_IO) ∨ (t = 2 ∧ E = po_IS)) ∧ ((u = 1 ∧ E = po_IO) ∨ (u = 2 ∧ E = po_IA) ∨ (u = 3 ∧ E = po_IS)) ∧ (∀ h, ra_c A h → gX10_refusalOfShip x h = some u) ∧ ∀ h, ra_m A h → gX11_ship x h = some (0, ms_I h 352 9 t) := by
  have h8 := ok.1.2.1.2.2
  rcases po_cs x (n := sp_nr (sa_S A)) (by omega) with ⟨r, hp, rfl⟩ | hx
  · have hw := sp_why_le (sa_S A) r
    by_cases h0 : sp_why (sa_S A) r = 0
    · refine Or.inl ⟨r, hp, h0, rfl, fun h H => ?_⟩
      unfold gX10_refusalOfShip
      rw [pc_hasR H ok hp, Option.bind_some, if_pos rfl, pc_why po_k21 H.1.2 ok.1.2 hp, Option.bind_some, h0, if_pos (show nI 0 = 0 from rfl)]
    · refine Or.inr ⟨2, 3, po_IS, Or.inr ⟨rfl, rfl⟩, Or.inr (Or.inr ⟨rfl, rfl⟩), fun h H => ?_, fun h H => ?_⟩
      · unfold gX10_refusalOfShip
        rw [pc_hasR H ok hp, Option.bind_some, if_pos rfl, pc_why po_k21 H.1.2 ok.1.2 hp, Option.bind_some, if_neg (nI_ne0 (by omega) (by omega))]
      · unfold gX11_ship
        dsimp only [mm_jn]
        rw [pm_isR H ok hp, Option.bind_some, if_pos rfl, if_pos rfl, pm_why H.1.2 ok.1.2 hp, Option.bind_some, if_neg (nI_ne0 (by omega) (by omega)), po_fails_2, Option.bind_some, if_pos rfl]
  · refine Or.inr ⟨1, 1, po_IO, Or.inl ⟨rfl, rfl⟩, Or.inl ⟨rfl, rfl⟩, fun h H => ?_, fun h H => ?_⟩
    · unfold gX10_refusalOfShip
      rw [pc_hasRn H hx, Option.bind_some, if_neg (by decide)]
    · unfold gX11_ship
      dsimp only [mm_jn]
      rw [pm_isRn H ok hx, Option.bind_some, if_neg (by decide), if_neg (by decide), po_fails_1, Option.bind_some, if_pos rfl]
theorem op_ship (x : Int32) : op_run (lc_2 po_IO po_IS) (gX10_ship x) (gX11_ship x) := by
  intro A ok
  rcases rf_ship x ok with ⟨r, hp, h0, rfl, hr⟩ | ⟨t, u, E, ht, hu, hr, hm⟩
  · have h3 := sp_why0 h0
    refine op_chg ok (S := sp_ship (sa_S A) r) (v := nI (sp_shipCost (sa_S A) r)) (sp_ship_ok ok.1.2 hp h3) ok.2.2.2.2.2.2.1 (fun h h1' H e1 HS => ?_) (fun h h1' H e1 HS => ?_)
    · obtain ⟨h2', g1, g2, g3⟩ := pc_ship po_k21 HS ok.1.2 hp h3
      unfold gX10_ship
      rw [hr h H, Option.bind_some, po_rf0, Option.bind_some]
      dsimp only
      rw [e1, Option.bind_some, g1, Option.bind_some]
      exact ⟨h2', rfl, g2, po_st_in g3⟩
    · obtain ⟨h2', g1, g2, g3⟩ := pm_ship HS ok.1.2 hp h3
      unfold gX11_ship
      dsimp only [mm_jn]
      rw [pm_isR H ok hp, Option.bind_some, if_pos rfl, if_pos rfl, pm_why H.1.2 ok.1.2 hp, Option.bind_some, h0, if_pos (show nI 0 = 0 from rfl), po_fails_0, Option.bind_some, if_neg Bool.false_ne_true, e1, Option.bind_some, g1, Option.bind_some]
      exact ⟨h2', rfl, g2, g3⟩
  · refine op_no ok (lc_2t ht).1 (lc_2t ht).2 (fun h H => ?_) hm
    unfold gX10_ship
    rw [hr h H, Option.bind_some, po_rfE hu]
    rfl
theorem rf_open (x : Int32) (ok : sa_ok A) : (∃ r, r < sp_nr (sa_S A) ∧ sp_r (sa_S A) r 3 = 0 ∧ x = nI r ∧ (∀ h, ra_c A h → gX10_refusalOfOpenOnly x h = some 0)) ∨
    ∃ t u E, ((t = 1 ∧ E = po_IO) ∨ (t = 2 ∧ E = po_IS)) ∧ ((u = 1 ∧ E = po_IO) ∨ (u = 2 ∧ E = po_IA) ∨ (u = 3 ∧ E = po_IS)) ∧ (∀ h, ra_c A h → gX10_refusalOfOpenOnly x h = some u) ∧ (∀ h, ra_m A h → gX11_cancel x h = some (0, ms_I h 352 9 t)) ∧ ∀ h, ra_m A h → gX11_refill x h = some (0, ms_I h 352 9 t) := by
  have h8 := ok.1.2.1.2.2
  rcases po_cs x (n := sp_nr (sa_S A)) (by omega) with ⟨r, hp, rfl⟩ | hx
  · by_cases h0 : sp_r (sa_S A) r 3 = 0
    · refine Or.inl ⟨r, hp, h0, rfl, fun h H => ?_⟩
      unfold gX10_refusalOfOpenOnly
      rw [pc_hasR H ok hp, Option.bind_some, if_pos rfl, pc_pend po_k21 H.1.2 ok.1.2 hp, Option.bind_some, if_pos (decide_eq_true h0)]
    · refine Or.inr ⟨2, 3, po_IS, Or.inr ⟨rfl, rfl⟩, Or.inr (Or.inr ⟨rfl, rfl⟩), fun h H => ?_, fun h H => ?_, fun h H => ?_⟩
      · unfold gX10_refusalOfOpenOnly
        rw [pc_hasR H ok hp, Option.bind_some, if_pos rfl, pc_pend po_k21 H.1.2 ok.1.2 hp, Option.bind_some, if_neg (by rw [decide_eq_false h0]; decide)]
      · unfold gX11_cancel
        dsimp only [mm_jn]
        rw [pm_isR H ok hp, Option.bind_some, if_pos rfl, if_pos rfl, pm_open H.1.2 ok.1.2 hp, Option.bind_some, if_neg (by rw [decide_eq_false h0]; decide), po_fails_2, Option.bind_some, if_pos rfl]
      · unfold gX11_refill
        dsimp only [mm_jn]
        rw [pm_isR H ok hp, Option.bind_some, if_pos rfl, if_pos rfl, pm_open H.1.2 ok.1.2 hp, Option.bind_some, if_neg (by rw [decide_eq_false h0]; decide), po_fails_2, Option.bind_some, if_pos rfl]
  · refine Or.inr ⟨1, 1, po_IO, Or.inl ⟨rfl, rfl⟩, Or.inl ⟨rfl, rfl⟩, fun h H => ?_, fun h H => ?_, fun h H => ?_⟩
    · unfold gX10_refusalOfOpenOnly
      rw [pc_hasRn H hx, Option.bind_some, if_neg (by decide)]
    · unfold gX11_cancel
      dsimp only [mm_jn]
      rw [pm_isRn H ok hx, Option.bind_some, if_neg (by decide), if_neg (by decide), po_fails_1, Option.bind_some, if_pos rfl]
    · unfold gX11_refill
      dsimp only [mm_jn]
      rw [pm_isRn H ok hx, Option.bind_some, if_neg (by decide), if_neg (by decide), po_fails_1, Option.bind_some, if_pos rfl]
theorem op_cancel (x : Int32) : op_run (lc_2 po_IO po_IS) (gX10_cancel x) (gX11_cancel x) := by
  intro A ok
  rcases rf_open x ok with ⟨r, hp, h3, rfl, hr⟩ | ⟨t, u, E, ht, hu, hr, hm, _⟩
  · refine op_chg ok (S := sp_close (sa_S A) r 2) (v := nI (sp_alls (sa_S A) r)) (sp_close_ok ok.1.2 hp h3 (by decide) (by decide)) ok.2.2.2.2.2.2.1 (fun h h1' H e1 HS => ?_) (fun h h1' H e1 HS => ?_)
    · obtain ⟨h2', g1, g2, g3⟩ := pc_cancel po_k21 HS ok.1.2 hp h3
      unfold gX10_cancel
      rw [hr h H, Option.bind_some, po_rf0, Option.bind_some]
      dsimp only
      rw [e1, Option.bind_some, g1, Option.bind_some]
      exact ⟨h2', rfl, g2, po_st_in g3⟩
    · obtain ⟨h2', g1, g2, g3⟩ := pm_cancel HS ok.1.2 hp h3
      unfold gX11_cancel
      dsimp only [mm_jn]
      rw [pm_isR H ok hp, Option.bind_some, if_pos rfl, if_pos rfl, pm_open H.1.2 ok.1.2 hp, Option.bind_some, if_pos (decide_eq_true h3), po_fails_0, Option.bind_some, if_neg Bool.false_ne_true, e1, Option.bind_some, g1, Option.bind_some]
      exact ⟨h2', rfl, g2, g3⟩
  · refine op_no ok (lc_2t ht).1 (lc_2t ht).2 (fun h H => ?_) hm
    unfold gX10_cancel
    rw [hr h H, Option.bind_some, po_rfE hu]
    rfl
theorem op_refill (x : Int32) : op_run (lc_2 po_IO po_IS) (gX10_refill x) (gX11_refill x) := by
  intro A ok
  rcases rf_open x ok with ⟨r, hp, h3, rfl, hr⟩ | ⟨t, u, E, ht, hu, hr, _, hm⟩
  · refine op_chg ok (S := sp_refill (sa_S A) r) (v := nI (sp_filled (sa_S A) r)) (sp_refill_ok ok.1.2 hp h3) ok.2.2.2.2.2.2.1 (fun h h1' H e1 HS => ?_) (fun h h1' H e1 HS => ?_)
    · obtain ⟨h2', g1, g2, g3⟩ := pc_refill po_k21 HS ok.1.2 hp h3
      unfold gX10_refill
      rw [hr h H, Option.bind_some, po_rf0, Option.bind_some]
      dsimp only
      rw [e1, Option.bind_some, g1, Option.bind_some]
      exact ⟨h2', rfl, g2, g3⟩
    · obtain ⟨h2', g1, g2, g3⟩ := pm_refill HS ok.1.2 hp h3
      unfold gX11_refill
      dsimp only [mm_jn]
      rw [pm_isR H ok hp, Option.bind_some, if_pos rfl, if_pos rfl, pm_open H.1.2 ok.1.2 hp, Option.bind_some, if_pos (decide_eq_true h3), po_fails_0, Option.bind_some, if_neg Bool.false_ne_true, e1, Option.bind_some, g1, Option.bind_some]
      exact ⟨h2', rfl, g2, g3⟩
  · refine op_no ok (lc_2t ht).1 (lc_2t ht).2 (fun h H => ?_) hm
    unfold gX10_refill
    rw [hr h H, Option.bind_some, po_rfE hu]
    rfl
/-! takeStock -/
theorem rf_count (x y : Int32) (ok : sa_ok A) : (∃ b q, b < sp_nb (sa_S A) ∧ q ≤ 999 ∧ sp_held (sa_S A) b ≤ q ∧ x = nI b ∧ y = nI q ∧ (∀ h, ra_c A h → gX10_refusalOfCount x y h = some 0)) ∨
    ∃ t E, ((t = 1 ∧ E = po_IO) ∨ (t = 2 ∧ E = po_IA) ∨ (t = 3 ∧ E = po_IS)) ∧ (∀ h, ra_c A h → gX10_refusalOfCount x y h = some t) ∧ ∀ h, ra_m A h → gX11_takeStock x y h = some (0, ms_I h 352 9 t) := by
  have h8 := ok.1.2.1.2.1
  rcases po_cs x (n := sp_nb (sa_S A)) (by omega) with ⟨p, hp, rfl⟩ | hx
  · have hh := sp_held_le ok.1.2 hp
    have hu := (ok.1.2.2.1 p hp).2.1
    rcases po_cr y (a := 0) (b := 999) (by decide) (by decide) with ⟨q, h1, h2, rfl⟩ | hy
    · have hc : ∀ h, ra_c A h → gX10_refusalOfCount (nI p) (nI q) h = if sp_held (sa_S A) p ≤ q then some 0 else some 3 := fun h H => by
        unfold gX10_refusalOfCount
        rw [pc_hasB H ok hp, Option.bind_some, if_pos rfl, po_outside_in (y := 0) (z := 999) h1 h2 (by decide) rfl rfl rfl, Option.bind_some, if_neg (by decide), show gX4_get 26 (nI p) h = some (nI (sp_held (sa_S A) p)) from pc_g5 po_k21 H.1.2 ok.1.2 hp, Option.bind_some]
        by_cases hn : sp_held (sa_S A) p ≤ q
        · rw [if_neg (nI_nlt hn (by omega)), if_pos hn]
        · rw [if_pos (nI_lt (by omega) (by omega)), if_neg hn]
      by_cases hn : sp_held (sa_S A) p ≤ q
      · exact Or.inl ⟨p, q, hp, h2, hn, rfl, rfl, fun h H => by rw [hc h H, if_pos hn]⟩
      · refine Or.inr ⟨3, po_IS, Or.inr (Or.inr ⟨rfl, rfl⟩), fun h H => by rw [hc h H, if_neg hn], fun h H => ?_⟩
        unfold gX11_takeStock
        dsimp only [mm_jn]
        rw [pm_isB H ok hp, Option.bind_some, if_pos rfl, po_in_in (y := 0) (z := 999) h1 h2 (by decide) rfl rfl rfl, Option.bind_some, if_pos rfl, Option.bind_some, if_pos rfl, Option.bind_some, if_pos rfl, if_neg (by decide), pm_held H.1.2 ok.1.2 (by omega), Option.bind_some, if_pos (nI_lt (by omega) (by omega)), po_fails_3, Option.bind_some, if_pos rfl]
    · refine Or.inr ⟨2, po_IA, Or.inr (Or.inl ⟨rfl, rfl⟩), fun h H => ?_, fun h H => ?_⟩
      · unfold gX10_refusalOfCount
        rw [pc_hasB H ok hp, Option.bind_some, if_pos rfl, po_outside_no (y := 0) (z := 999) hy rfl rfl, Option.bind_some, if_pos rfl]
      · unfold gX11_takeStock
        dsimp only [mm_jn]
        rw [pm_isB H ok hp, Option.bind_some, if_pos rfl, po_in_no' (y := 0) (z := 999) hy rfl rfl, Option.bind_some, if_neg (by decide), Option.bind_some, if_pos rfl, Option.bind_some, if_neg (by decide), if_pos rfl, po_fails_2, Option.bind_some, if_pos rfl]
  · refine Or.inr ⟨1, po_IO, Or.inl ⟨rfl, rfl⟩, fun h H => ?_, fun h H => ?_⟩
    · unfold gX10_refusalOfCount
      rw [pc_hasBn H hx, Option.bind_some, if_neg (by decide)]
    · unfold gX11_takeStock
      dsimp only [mm_jn]
      rw [pm_isBn H ok hx, Option.bind_some, if_neg (by decide), Option.bind_some, if_neg (by decide)]
      rcases po_cr y (a := 0) (b := 999) (by decide) (by decide) with ⟨q, h1, h2, rfl⟩ | hy
      · rw [po_in_in (y := 0) (z := 999) h1 h2 (by decide) rfl rfl rfl, Option.bind_some, if_pos rfl, if_pos rfl, po_fails_1, Option.bind_some, if_pos rfl]
      · rw [po_in_no' (y := 0) (z := 999) hy rfl rfl, Option.bind_some, if_neg (by decide), if_pos rfl, po_fails_1, Option.bind_some, if_pos rfl]
theorem op_takeStock (x y : Int32) : op_run (lc_3 po_IO po_IA po_IS) (gX10_takeStock x y) (gX11_takeStock x y) := by
  intro A ok
  have h8 := ok.1.2.1.2.1
  rcases rf_count x y ok with ⟨p, q, hp, h2, hn, rfl, rfl, hr⟩ | ⟨t, E, ht, hr, hm⟩
  · refine op_chg ok (S := sp_cnt (sa_S A) p q) (v := nI q - nI (sp_b (sa_S A) p 1)) (sp_cnt_ok ok.1.2 hn h2) ok.2.2.2.2.2.2.1 (fun h h1' H e1 HS => ?_) (fun h h1' H e1 HS => ?_)
    · obtain ⟨h2', g1, g2, g3⟩ := pc_count po_k21 HS ok.1.2 (c := q) hp
      unfold gX10_takeStock
      rw [hr h H, Option.bind_some, po_rf0, Option.bind_some]
      dsimp only
      rw [e1, Option.bind_some, g1, Option.bind_some]
      exact ⟨h2', rfl, g2, po_st_in g3⟩
    · obtain ⟨h2', g1, g2, g3⟩ := pm_count HS ok.1.2 (c := q) hp
      unfold gX11_takeStock
      dsimp only [mm_jn]
      rw [pm_isB H ok hp, Option.bind_some, if_pos rfl, po_in_in (y := 0) (z := 999) (Nat.zero_le _) h2 (by decide) rfl rfl rfl, Option.bind_some, if_pos rfl, Option.bind_some, if_pos rfl, Option.bind_some, if_pos rfl, if_neg (by decide), pm_held H.1.2 ok.1.2 (by omega), Option.bind_some, if_neg (nI_nlt hn (by omega)), po_fails_0, Option.bind_some, if_neg Bool.false_ne_true, e1, Option.bind_some, g1, Option.bind_some]
      exact ⟨h2', rfl, g2, g3⟩
  · refine op_no ok (lc_3t ht).1 (lc_3t ht).2 (fun h H => ?_) hm
    unfold gX10_takeStock
    rw [hr h H, Option.bind_some, po_rfE ht]
    rfl
/-! passDays, writeOffExpired -/
theorem lc_2d {t : Int32} {E : String} (ht : (t = 1 ∧ E = po_IA) ∨ (t = 2 ∧ E = po_IS)) : lc_2 po_IA po_IS E = some t ∧ ¬ t = 0 := by
  rcases ht with ⟨rfl, rfl⟩ | ⟨rfl, rfl⟩
  · exact ⟨lc_2a, by decide⟩
  · exact ⟨lc_2i, by decide⟩
theorem rf_days (x : Int32) (ok : sa_ok A) : (∃ d, 1 ≤ d ∧ d ≤ 999 ∧ sp_dy (sa_S A) + d ≤ 9999 ∧ x = nI d ∧ (∀ h, ra_c A h → gX10_refusalOfDays x h = some 0)) ∨
    ∃ t u E, ((t = 1 ∧ E = po_IA) ∨ (t = 2 ∧ E = po_IS)) ∧ ((u = 1 ∧ E = po_IO) ∨ (u = 2 ∧ E = po_IA) ∨ (u = 3 ∧ E = po_IS)) ∧ (∀ h, ra_c A h → gX10_refusalOfDays x h = some u) ∧ ∀ h, ra_m A h → gX11_passDays x h = some (0, ms_I h 352 9 t) := by
  have hdy := ok.1.2.1.1
  rcases po_cr x (a := 1) (b := 999) (by decide) (by decide) with ⟨d, h1, h2, rfl⟩ | hx
  · by_cases h0 : sp_dy (sa_S A) + d ≤ 9999
    · refine Or.inl ⟨d, h1, h2, h0, rfl, fun h H => ?_⟩
      unfold gX10_refusalOfDays
      rw [po_outside_in (y := 1) (z := 999) h1 h2 (by decide) rfl rfl rfl, Option.bind_some, if_neg (by decide), H.1.2.1.1, nI_add, if_neg (show ¬ 9999 < nI (sp_dy (sa_S A) + d) from nI_nlt (a := 9999) (by omega) (by decide))]
    · refine Or.inr ⟨2, 3, po_IS, Or.inr ⟨rfl, rfl⟩, Or.inr (Or.inr ⟨rfl, rfl⟩), fun h H => ?_, fun h H => ?_⟩
      · unfold gX10_refusalOfDays
        rw [po_outside_in (y := 1) (z := 999) h1 h2 (by decide) rfl rfl rfl, Option.bind_some, if_neg (by decide), H.1.2.1.1, nI_add, if_pos (show 9999 < nI (sp_dy (sa_S A) + d) from nI_lt (a := 9999) (by omega) (by omega))]
      · unfold gX11_passDays
        dsimp only [mm_jn]
        rw [po_in_in (y := 1) (z := 999) h1 h2 (by decide) rfl rfl rfl, Option.bind_some, if_pos rfl, if_pos rfl, if_pos po_m0, pm_dy H.1.2, nI_add, if_pos (show 9999 < nI (sp_dy (sa_S A) + d) from nI_lt (a := 9999) (by omega) (by omega)), po_fails_2, Option.bind_some, if_pos rfl]
  · refine Or.inr ⟨1, 2, po_IA, Or.inl ⟨rfl, rfl⟩, Or.inr (Or.inl ⟨rfl, rfl⟩), fun h H => ?_, fun h H => ?_⟩
    · unfold gX10_refusalOfDays
      rw [po_outside_no (y := 1) (z := 999) hx rfl rfl, Option.bind_some, if_pos rfl]
    · unfold gX11_passDays
      dsimp only [mm_jn]
      rw [po_in_no' (y := 1) (z := 999) hx rfl rfl, Option.bind_some, if_neg (by decide), if_neg (by decide), po_fails_1, Option.bind_some, if_pos rfl]
theorem op_passDays (x : Int32) : op_run (lc_2 po_IA po_IS) (gX10_passDays x) (gX11_passDays x) := by
  intro A ok
  rcases rf_days x ok with ⟨d, h1, h2, h0, rfl, hr⟩ | ⟨t, u, E, ht, hu, hr, hm⟩
  · refine op_chg ok (S := sp_adv (sa_S A) d) (v := nI (sp_newx (sa_S A) d)) (sp_adv_ok ok.1.2 (by omega)) h0 (fun h h1' H e1 HS => ?_) (fun h h1' H e1 HS => ?_)
    · obtain ⟨h2', g1, g2, g3⟩ := pc_advance po_k21 HS ok.1.2 (d := d) (by omega)
      unfold gX10_passDays
      rw [hr h H, Option.bind_some, po_rf0, Option.bind_some]
      dsimp only
      rw [e1, Option.bind_some, g1, Option.bind_some]
      exact ⟨h2', rfl, g2, po_st_in g3⟩
    · obtain ⟨h2', g1, g2, g3⟩ := pm_advance HS ok.1.2 (d := d) (by omega)
      unfold gX11_passDays
      dsimp only [mm_jn]
      rw [po_in_in (y := 1) (z := 999) h1 h2 (by decide) rfl rfl rfl, Option.bind_some, if_pos rfl, if_pos rfl, if_pos po_m0, pm_dy H.1.2, nI_add, if_neg (show ¬ 9999 < nI (sp_dy (sa_S A) + d) from nI_nlt (a := 9999) (by omega) (by decide)), po_fails_0, Option.bind_some, if_neg Bool.false_ne_true, e1, Option.bind_some, g1, Option.bind_some]
      exact ⟨h2', rfl, g2, g3⟩
  · refine op_no ok (lc_2d ht).1 (lc_2d ht).2 (fun h H => ?_) hm
    unfold gX10_passDays
    rw [hr h H, Option.bind_some, po_rfE hu]
    rfl
theorem op_writeOff (A : sp_A) (ok : sa_ok A) : ∃ v A', sa_ok A' ∧ (∀ h, ra_c A h → ∃ h1, gX10_writeOffExpired h = some (v, h1) ∧ ra_c A' h1 ∧ po_fr po_fc h h1) ∧ op_m gX11_writeOffExpired A 0 v A' := by
  refine ⟨nI (sp_wosum (sa_S A)), sa_chg A (sp_wo (sa_S A)), sa_chg_ok ok (sp_wos_ok ok.1.2 _) (by rw [show sp_dy (sp_wo (sa_S A)) = sp_dy (sa_S A) from sp_wos_dy _ _]; exact ok.2.2.2.2.2.2.1), fun h H => ?_, fun h H => ?_⟩
  · obtain ⟨h1, e1, e2, e3⟩ := cc_remember H ok
    obtain ⟨h2, g1, g2, g3⟩ := pc_wo po_k21 e2.1.2 ok.1.2
    unfold gX10_writeOffExpired
    have g3' := po_st_in g3
    refine ⟨h2, ?_, ra_c_set e2 g2 g3', po_fr_trans e3 (po_fr_mono g3' (fun z hz => po_st_c hz))⟩
    rw [e1, Option.bind_some, show gX7_writeOffExpiredBatches 21 h1 = _ from g1, Option.bind_some]
    rfl
  · obtain ⟨h1, e1, e2, e3, e4⟩ := cm_remember (ra_m_9 (v := 0) H ok) ok
    obtain ⟨h2, g1, g2, g3⟩ := pm_wo e2.1.2 ok.1.2
    unfold gX11_writeOffExpired
    refine ⟨h2, ?_, ?_, ra_m_set e2 (sa_push_ok ok) g2 g3, po_fr_trans po_fm9 (po_fr_trans e3 (po_fx_fm g3))⟩
    · rw [Option.bind_some, e1, Option.bind_some, show gX11_writeOff h1 = _ from g1, Option.bind_some]
      rfl
    · rw [g3.1.1 352 (by decide), e4, po_I1]
end PQF

section PPY2
/-! the state after the law's Stock is made -/
variable {h : mm_H} {o : Nat}
def ms_T (h : mm_H) (o : Nat) : mm_H := ms_S (ms_K h 5 0 11) o
theorem st_n (h : mm_H) (o : Nat) : mh_n (ms_T h o) = mh_n h + 13 ∧ mh_c (ms_T h o) = mh_c h + 13 ∧ mh_w (ms_T h o) = mh_w h + 235 ∧ mh_I (ms_T h o) = mh_I h := by
  refine ⟨?_, ?_, ?_, rfl⟩
  · show mh_n h + 1 + 1 + 11 = mh_n h + 13
    omega
  · show mh_c h + 1 + 1 + 11 = mh_c h + 13
    omega
  · show mh_w h + 5 + 20 + 210 = mh_w h + 235
    omega
theorem st_D (hn : mh_n h = o) (p j : Nat) : mh_D (ms_T h o) p j = if p = o + 2 then (if j = 0 then 7 else if j = 1 then 10 else 0) else if o + 2 < p ∧ p ≤ o + 2 + 10 then (if j = 0 then 1 else if j = 1 then 20 else 0) else if p = o + 1 then (if j = 0 then 1 else if j = 1 then 20 else 0) else if p = o then (if j = 0 then 0 else if j = 1 then 11 else 0) else mh_D h p j := by
  subst hn
  rfl
theorem st_R (hn : mh_n h = o) (p j : Nat) : mh_R (ms_T h o) p j = if p = o ∧ j = 0 then some 0 else if p = o ∧ j = 2 then some (o + 2) else if p = o + 2 ∧ j < 10 then some (o + 2 + 1 + j) else if p = o ∧ j = 1 then some (o + 1) else mh_R h p j := by
  subst hn
  rfl
def st_q (h : mm_H) (o : Nat) : mm_q := (o + 13, 1, mh_D (ms_T h o), mh_R (ms_T h o))
theorem st_St (hn : mh_n h = o) (ho : 352 ≤ o) : mm_St (st_q h o) o := by
  refine ⟨⟨ho, Nat.le_refl _⟩, ⟨⟨?_, ?_⟩, ⟨?_, ?_⟩, ⟨?_, ?_⟩, fun r hr => ⟨?_, ?_⟩⟩, ?_, ?_, ?_, fun r hr => ?_⟩
  · show mh_D (ms_T h o) o 0 = 0
    rw [st_D hn, if_neg (by omega), if_neg (by omega), if_neg (by omega), if_pos rfl, if_pos rfl]
  · show mh_D (ms_T h o) o 1 = 11
    rw [st_D hn, if_neg (by omega), if_neg (by omega), if_neg (by omega), if_pos rfl, if_neg (by decide), if_pos rfl]
  · show mh_D (ms_T h o) (o + 1) 0 = 1
    rw [st_D hn, if_neg (by omega), if_neg (by omega), if_pos rfl, if_pos rfl]
  · show mh_D (ms_T h o) (o + 1) 1 = 20
    rw [st_D hn, if_neg (by omega), if_neg (by omega), if_pos rfl, if_neg (by decide), if_pos rfl]
  · show mh_D (ms_T h o) (o + 2) 0 = 7
    rw [st_D hn, if_pos rfl, if_pos rfl]
  · show mh_D (ms_T h o) (o + 2) 1 = 10
    rw [st_D hn, if_pos rfl, if_neg (by decide), if_pos rfl]
  · show mh_D (ms_T h o) (o + 3 + r) 0 = 1
    rw [st_D hn, if_neg (by omega), if_pos (by omega), if_pos rfl]
  · show mh_D (ms_T h o) (o + 3 + r) 1 = 20
    rw [st_D hn, if_neg (by omega), if_pos (by omega), if_neg (by decide), if_pos rfl]
  · show mh_R (ms_T h o) o 0 = some 0
    rw [st_R hn, if_pos ⟨rfl, rfl⟩]
  · show mh_R (ms_T h o) o 1 = some (o + 1)
    rw [st_R hn, if_neg (fun z => absurd z.2 (by decide)), if_neg (fun z => absurd z.2 (by decide)), if_neg (fun z => absurd z.1 (by omega)), if_pos ⟨rfl, rfl⟩]
  · show mh_R (ms_T h o) o 2 = some (o + 2)
    rw [st_R hn, if_neg (fun z => absurd z.2 (by decide)), if_pos ⟨rfl, rfl⟩]
  · show mh_R (ms_T h o) (o + 2) r = some (o + 3 + r)
    rw [st_R hn, if_neg (fun z => absurd z.1 (by omega)), if_neg (fun z => absurd z.1 (by omega)), if_pos ⟨rfl, hr⟩]
theorem st_Sq {q : mm_q} (hs : mm_Sq (q.1, 1, q.2.2) h) (hn : mh_n h = o) (ho : 352 ≤ o) (hlt : o + 13 ≤ 400) : mm_Sq (st_q h o) (ms_T h o) := by
  refine ⟨⟨show 352 ≤ o + 13 by omega, hlt⟩, (st_n h o).1.trans (by rw [hn]; rfl), fun p hp k hk t ht => ?_, rfl, fun _ _ => rfl⟩
  rw [st_R hn, if_neg (fun z => by omega), if_neg (fun z => by omega), if_neg (fun z => by omega), if_neg (fun z => by omega)]
  exact hs.2.2.1 p hp k hk t ht
end PPY2

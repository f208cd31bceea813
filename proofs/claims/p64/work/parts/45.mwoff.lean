section PPQ
/-! the reference's write-offs; new reservations -/
variable {S : sp_S} {h : mm_H}
/-! a new reservation, still without units -/
def sp_addr (S : sp_S) (p q d : Nat) : sp_S :=
  ((sp_dy S, sp_nb S, sp_nr S + 1), S.2.1, (fun x w => if x = sp_nr S then (if w = 0 then p else if w = 1 then q else if w = 2 then d else 0) else sp_r S x w), (fun x y => if x = sp_nr S then 0 else sp_al S x y), S.2.2.2.2)
theorem sp_addr_held (S : sp_S) (p q d b : Nat) : sp_held (sp_addr S p q d) b = sp_held S b := by
  show sp_sum (fun r => if (if r = sp_nr S then (if 3 = 0 then p else if 3 = 1 then q else if 3 = 2 then d else 0) else sp_r S r 3) = 0 then (if r = sp_nr S then 0 else sp_al S r b) else 0) (sp_nr S) + (if (if sp_nr S = sp_nr S then (if 3 = 0 then p else if 3 = 1 then q else if 3 = 2 then d else 0) else sp_r S (sp_nr S) 3) = 0 then (if sp_nr S = sp_nr S then 0 else sp_al S (sp_nr S) b) else 0) = sp_held S b
  rw [show (if (if sp_nr S = sp_nr S then (if 3 = 0 then p else if 3 = 1 then q else if 3 = 2 then d else 0) else sp_r S (sp_nr S) 3) = 0 then (if sp_nr S = sp_nr S then 0 else sp_al S (sp_nr S) b) else 0) = 0 by simp]
  exact sp_sum_eq (fun r hr => by rw [if_neg (show ¬ r = sp_nr S by omega), if_neg (show ¬ r = sp_nr S by omega)])
theorem sp_addr_ok {S : sp_S} (ok : sp_ok S) {p q d : Nat} (hn : sp_nr S < 10) (hp : p < 8) (hq : q ≤ 9999) (hd : d ≤ 9999) : sp_ok (sp_addr S p q d) := by
  refine ⟨⟨ok.1.1, ok.1.2.1, hn⟩, fun b hb => ?_, fun r hr => ?_⟩
  · obtain ⟨g1, g2, g3, g4, g5⟩ := ok.2.1 b hb
    exact ⟨g1, g2, g3, g4, by rw [sp_addr_held]; exact g5⟩
  · have hr' : r < sp_nr S + 1 := hr
    by_cases hrn : r = sp_nr S
    · subst hrn
      have e : ∀ w, sp_r (sp_addr S p q d) (sp_nr S) w = (if w = 0 then p else if w = 1 then q else if w = 2 then d else 0) := fun w => if_pos rfl
      have ea : ∀ y, sp_al (sp_addr S p q d) (sp_nr S) y = 0 := fun y => if_pos rfl
      refine ⟨by rw [e]; exact hp, by rw [e]; exact hq, by rw [e]; exact hd, by rw [e]; exact (show (0 : Nat) ≤ 2 by decide), fun y hy => ⟨by rw [ea]; exact Nat.zero_le _, fun _ => ea y⟩, fun _ => ?_⟩
      have : sp_alls (sp_addr S p q d) (sp_nr S) = 0 := sp_sum_zero (fun y _ => ea y)
      rw [this]
      exact Nat.zero_le _
    · have e : ∀ w, sp_r (sp_addr S p q d) r w = sp_r S r w := fun w => if_neg hrn
      have ea : ∀ y, sp_al (sp_addr S p q d) r y = sp_al S r y := fun y => if_neg hrn
      obtain ⟨g1, g2, g3, g4, g5, g6⟩ := ok.2.2 r (by omega)
      refine ⟨by rw [e]; exact g1, by rw [e]; exact g2, by rw [e]; exact g3, by rw [e]; exact g4, fun y hy => by rw [ea]; exact g5 y hy, fun h3 => ?_⟩
      rw [e] at h3 ⊢
      have : sp_alls (sp_addr S p q d) r = sp_alls S r := sp_sum_eq (fun y _ => ea y)
      rw [this]
      exact g6 h3
def sp_resrv (S : sp_S) (p q d : Nat) : sp_S := sp_refill (sp_addr S p q d) (sp_nr S)
theorem sp_addr_lack (S : sp_S) (p q d : Nat) : sp_lack (sp_addr S p q d) (sp_nr S) = q := by
  unfold sp_lack
  have e : ∀ w, sp_r (sp_addr S p q d) (sp_nr S) w = (if w = 0 then p else if w = 1 then q else if w = 2 then d else 0) := fun w => if_pos rfl
  have : sp_alls (sp_addr S p q d) (sp_nr S) = 0 := sp_sum_zero (fun y _ => if_pos rfl)
  rw [e, e, this]
  rfl
end PPQ

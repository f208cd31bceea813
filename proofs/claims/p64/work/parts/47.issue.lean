section PPS
/-! issuing: with enough free units nothing stays untaken -/
def sp_lsum (f : Nat → Nat) : List Nat → Nat
  | [] => 0
  | b :: t => f b + sp_lsum f t
theorem sp_left_lsum {f : Nat → Nat} : ∀ {l : List Nat} {q : Nat}, sp_left f l q = q - sp_lsum f l
  | [], q => by
    show q = q - 0
    omega
  | b :: t, q => by
    show sp_left f t (q - min q (f b)) = q - (f b + sp_lsum f t)
    rw [sp_left_lsum (l := t)]
    omega
theorem sp_lsum_ins {f e : Nat → Nat} {x : Nat} : ∀ {l : List Nat}, sp_lsum f (sp_ins e x l) = f x + sp_lsum f l
  | [] => rfl
  | y :: t => by
    rw [sp_ins_cons]
    by_cases h : e x < e y
    · rw [if_pos h]
      rfl
    · rw [if_neg h]
      show f y + sp_lsum f (sp_ins e x t) = f x + (f y + sp_lsum f t)
      rw [sp_lsum_ins (l := t)]
      omega
theorem sp_lsum_ordk {f e : Nat → Nat} {c : Nat → Bool} : ∀ {n : Nat}, sp_lsum f (sp_ordk e c n) = sp_sum (fun b => if c b = true then f b else 0) n
  | 0 => rfl
  | n + 1 => by
    show sp_lsum f (if c n = true then sp_ins e n (sp_ordk e c n) else sp_ordk e c n) = sp_sum (fun b => if c b = true then f b else 0) n + (if c n = true then f n else 0)
    by_cases h : c n = true
    · rw [if_pos h, if_pos h, sp_lsum_ins, sp_lsum_ordk (n := n)]
      omega
    · rw [if_neg h, if_neg h, sp_lsum_ordk (n := n)]
      rfl
theorem sp_lsum_av (S : sp_S) (p d : Nat) : sp_lsum (sp_free S) (sp_ord S p d) = sp_av S p d := by
  unfold sp_ord sp_av
  rw [sp_lsum_ordk]
  refine sp_sum_eq (fun b _ => ?_)
  by_cases h : sp_b S b 0 = p ∧ d ≤ sp_b S b 2 ∧ 0 < sp_free S b
  · rw [if_pos (show sp_el S p d b = true from decide_eq_true h), if_pos ⟨h.1, h.2.1⟩]
  · rw [if_neg (show ¬ sp_el S p d b = true from fun z => h (of_decide_eq_true z))]
    by_cases h2 : sp_b S b 0 = p ∧ d ≤ sp_b S b 2
    · rw [if_pos h2]
      have h3 : ¬ 0 < sp_free S b := fun z => h ⟨h2.1, h2.2, z⟩
      omega
    · rw [if_neg h2]
def sp_issue (S : sp_S) (p q : Nat) : sp_S := sp_take S p (sp_tk (sp_free S) (sp_ord S p (sp_dy S)) q) q
def sp_icost (S : sp_S) (p q : Nat) : Nat := sp_cost (sp_free S) (fun b => sp_b S b 3) (sp_ord S p (sp_dy S)) q
theorem sp_issue_ok {S : sp_S} (ok : sp_ok S) (p q : Nat) : sp_ok (sp_issue S p q) := sp_take_ok ok (fun _ _ => sp_tk_le)
variable {S : sp_S} {o : Nat} {h : mm_H}
theorem sp_av_le (ok : sp_ok S) (p d : Nat) : sp_av S p d ≤ 19980 := sp_sum999 ok (fun b hb => by
    by_cases hc : sp_b S b 0 = p ∧ d ≤ sp_b S b 2
    · rw [if_pos hc]
      exact sp_free_le ok hb
    · rw [if_neg hc]
      omega) (Nat.le_refl _)
end PPS

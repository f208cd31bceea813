section PRC
/-! scripts: one command, on both sides -/
variable {h : mm_H} {L : List sp_Q} {i : Nat}
theorem po_etb {γ : Type} {f : Option γ} : f.bind (fun x => some x) = f := by
  cases f <;> rfl
theorem tc_ga {j : Nat} {x : Int32} (hi : i < 30) (hj : j < 4) (hx : x = nI j) : gX5_argument (nI i) x h = some (mh_I h 13 (4 * i + j)) := by
  unfold gX5_argument
  rw [hx, show nI i * 4 + nI j = nI (4 * i + j) by rw [show (4 : Int32) = nI 4 from rfl, pk_mul, nI_add, Nat.mul_comm], po_get (by rw [po_c12]; omega) (by rw [po_c12]; decide), Option.bind_some]
theorem tc_gc {c : Nat} (hi : i < 30) (H : mh_I h 11 i = nI c) : gX4_get 10 (nI i) h = some (nI c) := by
  rw [po_get (by rw [po_c10]; exact hi) (by rw [po_c10]; decide)]
  exact congrArg some H
theorem tr_0 {p q e u : Nat} (HQ : sc_Q L h) (hL : L[i]? = some (0, [p, q, e, u])) (hi : i < 30) : gX10_refusalOfCommand (nI i) h = gX10_refusalOfReceive (nI p) (nI q) (nI e) (nI u) h := by
  obtain ⟨g1, g2⟩ := HQ.2 i _ hL
  dsimp only at g1
  have e0 := g2 0 p rfl
  have e1 := g2 1 q rfl
  have e2 := g2 2 e rfl
  have e3 := g2 3 u rfl
  unfold gX10_refusalOfCommand
  rw [tc_ga (j := 0) (x := 0) hi (by decide) rfl, e0, Option.bind_some, tc_ga (j := 1) (x := 1) hi (by decide) rfl, e1, Option.bind_some, tc_ga (j := 2) (x := 2) hi (by decide) rfl, e2, Option.bind_some, tc_gc hi g1, Option.bind_some, if_pos (show nI 0 = 0 from rfl), tc_ga (j := 3) (x := 3) hi (by decide) rfl, e3, Option.bind_some, po_etb]
theorem tp_0 {p q e u : Nat} (HQ : sc_Q L h) (hL : L[i]? = some (0, [p, q, e, u])) (hi : i < 30) : gX10_performCommand (nI i) h = (gX7_addBatch 21 (nI p) (nI q) (nI e) (nI u) h).bind (fun x => some x.2) := by
  obtain ⟨g1, g2⟩ := HQ.2 i _ hL
  dsimp only at g1
  have e0 := g2 0 p rfl
  have e1 := g2 1 q rfl
  have e2 := g2 2 e rfl
  have e3 := g2 3 u rfl
  unfold gX10_performCommand
  rw [tc_ga (j := 0) (x := 0) hi (by decide) rfl, e0, Option.bind_some, tc_ga (j := 1) (x := 1) hi (by decide) rfl, e1, Option.bind_some, tc_ga (j := 2) (x := 2) hi (by decide) rfl, e2, Option.bind_some, tc_gc hi g1, Option.bind_some, if_pos (show nI 0 = 0 from rfl), tc_ga (j := 3) (x := 3) hi (by decide) rfl, e3, Option.bind_some]
theorem tk_0 {p q e u : Nat} (HQ : sm_Q L h) (hL : L[i]? = some (0, [p, q, e, u])) (hi : i < 30) : gX11_canDo (nI (5 * i)) h = (gX11_isBatchData (nI q) (nI e) (nI u) h).bind (fun (x10 : Bool) => if x10 = true then (if mm_ibd 2 4200 = true then (if mh_I h 353 (Int32.toNatClampNeg 2) < 20 then some true else some false) else none) else some false) := by
  obtain ⟨g1, g2⟩ := HQ i _ hL
  dsimp only at g1
  have e0 := g2 0 p rfl
  have e1 := g2 1 q rfl
  have e2 := g2 2 e rfl
  have e3 := g2 3 u rfl
  unfold gX11_canDo
  rw [show nI (5 * i) + 1 = nI (5 * i + 1 + 0) from nI_add _ 1, show nI (5 * i) + 2 = nI (5 * i + 1 + 1) from nI_add _ 2, show nI (5 * i) + 3 = nI (5 * i + 1 + 2) from nI_add _ 3, show nI (5 * i) + 4 = nI (5 * i + 1 + 3) from nI_add _ 4, nI_clamp (n := 5 * i) (by omega), nI_clamp (n := 5 * i + 1 + 0) (by omega), nI_clamp (n := 5 * i + 1 + 1) (by omega), nI_clamp (n := 5 * i + 1 + 2) (by omega), nI_clamp (n := 5 * i + 1 + 3) (by omega), g1, e0, e1, e2, e3, if_pos (po_ibd (i := 5 * i + 1 + 0) (n := 150) (by omega) (by decide)), Option.bind_some, if_pos (po_ibd (i := 5 * i + 1 + 1) (n := 150) (by omega) (by decide)), Option.bind_some, if_pos (po_ibd (i := 5 * i + 1 + 2) (n := 150) (by omega) (by decide)), Option.bind_some, if_pos (po_ibd (i := 5 * i) (n := 150) (by omega) (by decide)), if_pos (show nI 0 = 0 from rfl), if_pos (po_ibd (i := 5 * i + 1 + 3) (n := 150) (by omega) (by decide))]
theorem td_0 {p q e u : Nat} (HQ : sm_Q L h) (hL : L[i]? = some (0, [p, q, e, u])) (hi : i < 30) : gX11_doIt (nI (5 * i)) h = (gX11_receiveIt (nI p) (nI q) (nI e) (nI u) h).bind (fun x => some x.2) := by
  obtain ⟨g1, g2⟩ := HQ i _ hL
  dsimp only at g1
  have e0 := g2 0 p rfl
  have e1 := g2 1 q rfl
  have e2 := g2 2 e rfl
  have e3 := g2 3 u rfl
  unfold gX11_doIt
  rw [show nI (5 * i) + 1 = nI (5 * i + 1 + 0) from nI_add _ 1, show nI (5 * i) + 2 = nI (5 * i + 1 + 1) from nI_add _ 2, show nI (5 * i) + 3 = nI (5 * i + 1 + 2) from nI_add _ 3, show nI (5 * i) + 4 = nI (5 * i + 1 + 3) from nI_add _ 4, nI_clamp (n := 5 * i) (by omega), nI_clamp (n := 5 * i + 1 + 0) (by omega), nI_clamp (n := 5 * i + 1 + 1) (by omega), nI_clamp (n := 5 * i + 1 + 2) (by omega), nI_clamp (n := 5 * i + 1 + 3) (by omega), g1, e0, e1, e2, e3, if_pos (po_ibd (i := 5 * i + 1 + 0) (n := 150) (by omega) (by decide)), Option.bind_some, if_pos (po_ibd (i := 5 * i + 1 + 1) (n := 150) (by omega) (by decide)), Option.bind_some, if_pos (po_ibd (i := 5 * i + 1 + 2) (n := 150) (by omega) (by decide)), Option.bind_some, if_pos (po_ibd (i := 5 * i) (n := 150) (by omega) (by decide)), if_pos (show nI 0 = 0 from rfl), if_pos (po_ibd (i := 5 * i + 1 + 3) (n := 150) (by omega) (by decide))]
theorem tr_1 {p q : Nat} (HQ : sc_Q L h) (hL : L[i]? = some (1, [p, q])) (hi : i < 30) : gX10_refusalOfCommand (nI i) h = gX10_refusalOfIssue (nI p) (nI q) h := by
  obtain ⟨g1, g2⟩ := HQ.2 i _ hL
  dsimp only at g1
  have e0 := g2 0 p rfl
  have e1 := g2 1 q rfl
  unfold gX10_refusalOfCommand
  rw [tc_ga (j := 0) (x := 0) hi (by decide) rfl, e0, Option.bind_some, tc_ga (j := 1) (x := 1) hi (by decide) rfl, e1, Option.bind_some, tc_ga (j := 2) (x := 2) hi (by decide) rfl, Option.bind_some, tc_gc hi g1, Option.bind_some, if_neg (show ¬ nI 1 = 0 by decide), if_pos (show nI 1 = 1 from rfl), po_etb]
theorem tp_1 {p q : Nat} (HQ : sc_Q L h) (hL : L[i]? = some (1, [p, q])) (hi : i < 30) : gX10_performCommand (nI i) h = (gX7_issueUnits 21 (nI p) (nI q) h).bind (fun x => some x.2) := by
  obtain ⟨g1, g2⟩ := HQ.2 i _ hL
  dsimp only at g1
  have e0 := g2 0 p rfl
  have e1 := g2 1 q rfl
  unfold gX10_performCommand
  rw [tc_ga (j := 0) (x := 0) hi (by decide) rfl, e0, Option.bind_some, tc_ga (j := 1) (x := 1) hi (by decide) rfl, e1, Option.bind_some, tc_ga (j := 2) (x := 2) hi (by decide) rfl, Option.bind_some, tc_gc hi g1, Option.bind_some, if_neg (show ¬ nI 1 = 0 by decide), if_pos (show nI 1 = 1 from rfl)]
theorem tk_1 {p q : Nat} (HQ : sm_Q L h) (hL : L[i]? = some (1, [p, q])) (hi : i < 30) : gX11_canDo (nI (5 * i)) h = if nI q < 1 then some false else (gX11_canIssue (nI p) (nI q) h).bind (fun (x : Bool) => if x = true then some true else some false) := by
  obtain ⟨g1, g2⟩ := HQ i _ hL
  dsimp only at g1
  have e0 := g2 0 p rfl
  have e1 := g2 1 q rfl
  unfold gX11_canDo
  rw [show nI (5 * i) + 1 = nI (5 * i + 1 + 0) from nI_add _ 1, show nI (5 * i) + 2 = nI (5 * i + 1 + 1) from nI_add _ 2, show nI (5 * i) + 3 = nI (5 * i + 1 + 2) from nI_add _ 3, show nI (5 * i) + 4 = nI (5 * i + 1 + 3) from nI_add _ 4, nI_clamp (n := 5 * i) (by omega), nI_clamp (n := 5 * i + 1 + 0) (by omega), nI_clamp (n := 5 * i + 1 + 1) (by omega), nI_clamp (n := 5 * i + 1 + 2) (by omega), nI_clamp (n := 5 * i + 1 + 3) (by omega), g1, e0, e1, if_pos (po_ibd (i := 5 * i + 1 + 0) (n := 150) (by omega) (by decide)), Option.bind_some, if_pos (po_ibd (i := 5 * i + 1 + 1) (n := 150) (by omega) (by decide)), Option.bind_some, if_pos (po_ibd (i := 5 * i + 1 + 2) (n := 150) (by omega) (by decide)), Option.bind_some, if_pos (po_ibd (i := 5 * i) (n := 150) (by omega) (by decide)), if_neg (show ¬ nI 1 = 0 by decide), if_pos (show nI 1 = 1 from rfl)]
theorem td_1 {p q : Nat} (HQ : sm_Q L h) (hL : L[i]? = some (1, [p, q])) (hi : i < 30) : gX11_doIt (nI (5 * i)) h = (gX11_takeOut (nI p) (nI q) (mh_I h 353 (Int32.toNatClampNeg 0)) h).bind (fun x => some x.2) := by
  obtain ⟨g1, g2⟩ := HQ i _ hL
  dsimp only at g1
  have e0 := g2 0 p rfl
  have e1 := g2 1 q rfl
  unfold gX11_doIt
  rw [show nI (5 * i) + 1 = nI (5 * i + 1 + 0) from nI_add _ 1, show nI (5 * i) + 2 = nI (5 * i + 1 + 1) from nI_add _ 2, show nI (5 * i) + 3 = nI (5 * i + 1 + 2) from nI_add _ 3, show nI (5 * i) + 4 = nI (5 * i + 1 + 3) from nI_add _ 4, nI_clamp (n := 5 * i) (by omega), nI_clamp (n := 5 * i + 1 + 0) (by omega), nI_clamp (n := 5 * i + 1 + 1) (by omega), nI_clamp (n := 5 * i + 1 + 2) (by omega), nI_clamp (n := 5 * i + 1 + 3) (by omega), g1, e0, e1, if_pos (po_ibd (i := 5 * i + 1 + 0) (n := 150) (by omega) (by decide)), Option.bind_some, if_pos (po_ibd (i := 5 * i + 1 + 1) (n := 150) (by omega) (by decide)), Option.bind_some, if_pos (po_ibd (i := 5 * i + 1 + 2) (n := 150) (by omega) (by decide)), Option.bind_some, if_pos (po_ibd (i := 5 * i) (n := 150) (by omega) (by decide)), if_neg (show ¬ nI 1 = 0 by decide), if_pos (show nI 1 = 1 from rfl), if_pos po_m0]
theorem tr_2 {p q d : Nat} (HQ : sc_Q L h) (hL : L[i]? = some (2, [p, q, d])) (hi : i < 30) : gX10_refusalOfCommand (nI i) h = gX10_refusalOfReserve (nI p) (nI q) (nI d) h := by
  obtain ⟨g1, g2⟩ := HQ.2 i _ hL
  dsimp only at g1
  have e0 := g2 0 p rfl
  have e1 := g2 1 q rfl
  have e2 := g2 2 d rfl
  unfold gX10_refusalOfCommand
  rw [tc_ga (j := 0) (x := 0) hi (by decide) rfl, e0, Option.bind_some, tc_ga (j := 1) (x := 1) hi (by decide) rfl, e1, Option.bind_some, tc_ga (j := 2) (x := 2) hi (by decide) rfl, e2, Option.bind_some, tc_gc hi g1, Option.bind_some, if_neg (show ¬ nI 2 = 0 by decide), if_neg (show ¬ nI 2 = 1 by decide), if_pos (show nI 2 = 2 from rfl), po_etb]
theorem tp_2 {p q d : Nat} (HQ : sc_Q L h) (hL : L[i]? = some (2, [p, q, d])) (hi : i < 30) : gX10_performCommand (nI i) h = (gX7_addReservation 21 (nI p) (nI q) (nI d) h).bind (fun x => some x.2) := by
  obtain ⟨g1, g2⟩ := HQ.2 i _ hL
  dsimp only at g1
  have e0 := g2 0 p rfl
  have e1 := g2 1 q rfl
  have e2 := g2 2 d rfl
  unfold gX10_performCommand
  rw [tc_ga (j := 0) (x := 0) hi (by decide) rfl, e0, Option.bind_some, tc_ga (j := 1) (x := 1) hi (by decide) rfl, e1, Option.bind_some, tc_ga (j := 2) (x := 2) hi (by decide) rfl, e2, Option.bind_some, tc_gc hi g1, Option.bind_some, if_neg (show ¬ nI 2 = 0 by decide), if_neg (show ¬ nI 2 = 1 by decide), if_pos (show nI 2 = 2 from rfl)]
theorem tk_2 {p q d : Nat} (HQ : sm_Q L h) (hL : L[i]? = some (2, [p, q, d])) (hi : i < 30) : gX11_canDo (nI (5 * i)) h = if nI q < 1 then some false else if mm_ibd 0 4200 = true then (if nI d < mh_I h 353 (Int32.toNatClampNeg 0) then some false else (gX11_canReserve (nI p) (nI q) (nI d) h).bind (fun (x : Bool) => if x = true then some true else some false)) else none := by
  obtain ⟨g1, g2⟩ := HQ i _ hL
  dsimp only at g1
  have e0 := g2 0 p rfl
  have e1 := g2 1 q rfl
  have e2 := g2 2 d rfl
  unfold gX11_canDo
  rw [show nI (5 * i) + 1 = nI (5 * i + 1 + 0) from nI_add _ 1, show nI (5 * i) + 2 = nI (5 * i + 1 + 1) from nI_add _ 2, show nI (5 * i) + 3 = nI (5 * i + 1 + 2) from nI_add _ 3, show nI (5 * i) + 4 = nI (5 * i + 1 + 3) from nI_add _ 4, nI_clamp (n := 5 * i) (by omega), nI_clamp (n := 5 * i + 1 + 0) (by omega), nI_clamp (n := 5 * i + 1 + 1) (by omega), nI_clamp (n := 5 * i + 1 + 2) (by omega), nI_clamp (n := 5 * i + 1 + 3) (by omega), g1, e0, e1, e2, if_pos (po_ibd (i := 5 * i + 1 + 0) (n := 150) (by omega) (by decide)), Option.bind_some, if_pos (po_ibd (i := 5 * i + 1 + 1) (n := 150) (by omega) (by decide)), Option.bind_some, if_pos (po_ibd (i := 5 * i + 1 + 2) (n := 150) (by omega) (by decide)), Option.bind_some, if_pos (po_ibd (i := 5 * i) (n := 150) (by omega) (by decide)), if_neg (show ¬ nI 2 = 0 by decide), if_neg (show ¬ nI 2 = 1 by decide), if_pos (show nI 2 = 2 from rfl)]
theorem td_2 {p q d : Nat} (HQ : sm_Q L h) (hL : L[i]? = some (2, [p, q, d])) (hi : i < 30) : gX11_doIt (nI (5 * i)) h = (gX11_reserveIt (nI p) (nI q) (nI d) h).bind (fun x => some x.2) := by
  obtain ⟨g1, g2⟩ := HQ i _ hL
  dsimp only at g1
  have e0 := g2 0 p rfl
  have e1 := g2 1 q rfl
  have e2 := g2 2 d rfl
  unfold gX11_doIt
  rw [show nI (5 * i) + 1 = nI (5 * i + 1 + 0) from nI_add _ 1, show nI (5 * i) + 2 = nI (5 * i + 1 + 1) from nI_add _ 2, show nI (5 * i) + 3 = nI (5 * i + 1 + 2) from nI_add _ 3, show nI (5 * i) + 4 = nI (5 * i + 1 + 3) from nI_add _ 4, nI_clamp (n := 5 * i) (by omega), nI_clamp (n := 5 * i + 1 + 0) (by omega), nI_clamp (n := 5 * i + 1 + 1) (by omega), nI_clamp (n := 5 * i + 1 + 2) (by omega), nI_clamp (n := 5 * i + 1 + 3) (by omega), g1, e0, e1, e2, if_pos (po_ibd (i := 5 * i + 1 + 0) (n := 150) (by omega) (by decide)), Option.bind_some, if_pos (po_ibd (i := 5 * i + 1 + 1) (n := 150) (by omega) (by decide)), Option.bind_some, if_pos (po_ibd (i := 5 * i + 1 + 2) (n := 150) (by omega) (by decide)), Option.bind_some, if_pos (po_ibd (i := 5 * i) (n := 150) (by omega) (by decide)), if_neg (show ¬ nI 2 = 0 by decide), if_neg (show ¬ nI 2 = 1 by decide), if_pos (show nI 2 = 2 from rfl)]
theorem tr_3 {r : Nat} (HQ : sc_Q L h) (hL : L[i]? = some (3, [r])) (hi : i < 30) : gX10_refusalOfCommand (nI i) h = gX10_refusalOfShip (nI r) h := by
  obtain ⟨g1, g2⟩ := HQ.2 i _ hL
  dsimp only at g1
  have e0 := g2 0 r rfl
  unfold gX10_refusalOfCommand
  rw [tc_ga (j := 0) (x := 0) hi (by decide) rfl, e0, Option.bind_some, tc_ga (j := 1) (x := 1) hi (by decide) rfl, Option.bind_some, tc_ga (j := 2) (x := 2) hi (by decide) rfl, Option.bind_some, tc_gc hi g1, Option.bind_some, if_neg (show ¬ nI 3 = 0 by decide), if_neg (show ¬ nI 3 = 1 by decide), if_neg (show ¬ nI 3 = 2 by decide), if_pos (show nI 3 = 3 from rfl), po_etb]
theorem tp_3 {r : Nat} (HQ : sc_Q L h) (hL : L[i]? = some (3, [r])) (hi : i < 30) : gX10_performCommand (nI i) h = (gX7_shipReservation 21 (nI r) h).bind (fun x => some x.2) := by
  obtain ⟨g1, g2⟩ := HQ.2 i _ hL
  dsimp only at g1
  have e0 := g2 0 r rfl
  unfold gX10_performCommand
  rw [tc_ga (j := 0) (x := 0) hi (by decide) rfl, e0, Option.bind_some, tc_ga (j := 1) (x := 1) hi (by decide) rfl, Option.bind_some, tc_ga (j := 2) (x := 2) hi (by decide) rfl, Option.bind_some, tc_gc hi g1, Option.bind_some, if_neg (show ¬ nI 3 = 0 by decide), if_neg (show ¬ nI 3 = 1 by decide), if_neg (show ¬ nI 3 = 2 by decide), if_pos (show nI 3 = 3 from rfl)]
theorem tk_3 {r : Nat} (HQ : sm_Q L h) (hL : L[i]? = some (3, [r])) (hi : i < 30) : gX11_canDo (nI (5 * i)) h = (gX11_isReservation (nI r) h).bind (fun (x : Bool) => if x = true then (gX11_shippingReason (nI r) h).bind (fun (y : Int32) => if y = 0 then some true else some false) else some false) := by
  obtain ⟨g1, g2⟩ := HQ i _ hL
  dsimp only at g1
  have e0 := g2 0 r rfl
  unfold gX11_canDo
  rw [show nI (5 * i) + 1 = nI (5 * i + 1 + 0) from nI_add _ 1, show nI (5 * i) + 2 = nI (5 * i + 1 + 1) from nI_add _ 2, show nI (5 * i) + 3 = nI (5 * i + 1 + 2) from nI_add _ 3, show nI (5 * i) + 4 = nI (5 * i + 1 + 3) from nI_add _ 4, nI_clamp (n := 5 * i) (by omega), nI_clamp (n := 5 * i + 1 + 0) (by omega), nI_clamp (n := 5 * i + 1 + 1) (by omega), nI_clamp (n := 5 * i + 1 + 2) (by omega), nI_clamp (n := 5 * i + 1 + 3) (by omega), g1, e0, if_pos (po_ibd (i := 5 * i + 1 + 0) (n := 150) (by omega) (by decide)), Option.bind_some, if_pos (po_ibd (i := 5 * i + 1 + 1) (n := 150) (by omega) (by decide)), Option.bind_some, if_pos (po_ibd (i := 5 * i + 1 + 2) (n := 150) (by omega) (by decide)), Option.bind_some, if_pos (po_ibd (i := 5 * i) (n := 150) (by omega) (by decide)), if_neg (show ¬ nI 3 = 0 by decide), if_neg (show ¬ nI 3 = 1 by decide), if_neg (show ¬ nI 3 = 2 by decide), if_pos (show nI 3 = 3 from rfl)]
theorem td_3 {r : Nat} (HQ : sm_Q L h) (hL : L[i]? = some (3, [r])) (hi : i < 30) : gX11_doIt (nI (5 * i)) h = (gX11_shipIt (nI r) h).bind (fun x => some x.2) := by
  obtain ⟨g1, g2⟩ := HQ i _ hL
  dsimp only at g1
  have e0 := g2 0 r rfl
  unfold gX11_doIt
  rw [show nI (5 * i) + 1 = nI (5 * i + 1 + 0) from nI_add _ 1, show nI (5 * i) + 2 = nI (5 * i + 1 + 1) from nI_add _ 2, show nI (5 * i) + 3 = nI (5 * i + 1 + 2) from nI_add _ 3, show nI (5 * i) + 4 = nI (5 * i + 1 + 3) from nI_add _ 4, nI_clamp (n := 5 * i) (by omega), nI_clamp (n := 5 * i + 1 + 0) (by omega), nI_clamp (n := 5 * i + 1 + 1) (by omega), nI_clamp (n := 5 * i + 1 + 2) (by omega), nI_clamp (n := 5 * i + 1 + 3) (by omega), g1, e0, if_pos (po_ibd (i := 5 * i + 1 + 0) (n := 150) (by omega) (by decide)), Option.bind_some, if_pos (po_ibd (i := 5 * i + 1 + 1) (n := 150) (by omega) (by decide)), Option.bind_some, if_pos (po_ibd (i := 5 * i + 1 + 2) (n := 150) (by omega) (by decide)), Option.bind_some, if_pos (po_ibd (i := 5 * i) (n := 150) (by omega) (by decide)), if_neg (show ¬ nI 3 = 0 by decide), if_neg (show ¬ nI 3 = 1 by decide), if_neg (show ¬ nI 3 = 2 by decide), if_pos (show nI 3 = 3 from rfl)]
theorem tr_4 {r : Nat} (HQ : sc_Q L h) (hL : L[i]? = some (4, [r])) (hi : i < 30) : gX10_refusalOfCommand (nI i) h = gX10_refusalOfOpenOnly (nI r) h := by
  obtain ⟨g1, g2⟩ := HQ.2 i _ hL
  dsimp only at g1
  have e0 := g2 0 r rfl
  unfold gX10_refusalOfCommand
  rw [tc_ga (j := 0) (x := 0) hi (by decide) rfl, e0, Option.bind_some, tc_ga (j := 1) (x := 1) hi (by decide) rfl, Option.bind_some, tc_ga (j := 2) (x := 2) hi (by decide) rfl, Option.bind_some, tc_gc hi g1, Option.bind_some, if_neg (show ¬ nI 4 = 0 by decide), if_neg (show ¬ nI 4 = 1 by decide), if_neg (show ¬ nI 4 = 2 by decide), if_neg (show ¬ nI 4 = 3 by decide), if_pos (show nI 4 = 4 from rfl), po_etb]
theorem tp_4 {r : Nat} (HQ : sc_Q L h) (hL : L[i]? = some (4, [r])) (hi : i < 30) : gX10_performCommand (nI i) h = (gX7_cancelReservation 21 (nI r) h).bind (fun x => some x.2) := by
  obtain ⟨g1, g2⟩ := HQ.2 i _ hL
  dsimp only at g1
  have e0 := g2 0 r rfl
  unfold gX10_performCommand
  rw [tc_ga (j := 0) (x := 0) hi (by decide) rfl, e0, Option.bind_some, tc_ga (j := 1) (x := 1) hi (by decide) rfl, Option.bind_some, tc_ga (j := 2) (x := 2) hi (by decide) rfl, Option.bind_some, tc_gc hi g1, Option.bind_some, if_neg (show ¬ nI 4 = 0 by decide), if_neg (show ¬ nI 4 = 1 by decide), if_neg (show ¬ nI 4 = 2 by decide), if_neg (show ¬ nI 4 = 3 by decide), if_pos (show nI 4 = 4 from rfl)]
theorem tk_4 {r : Nat} (HQ : sm_Q L h) (hL : L[i]? = some (4, [r])) (hi : i < 30) : gX11_canDo (nI (5 * i)) h = (gX11_isReservation (nI r) h).bind (fun (x : Bool) => if x = true then (gX11_isOpenOne (nI r) h).bind (fun (y : Bool) => if y = true then some true else some false) else some false) := by
  obtain ⟨g1, g2⟩ := HQ i _ hL
  dsimp only at g1
  have e0 := g2 0 r rfl
  unfold gX11_canDo
  rw [show nI (5 * i) + 1 = nI (5 * i + 1 + 0) from nI_add _ 1, show nI (5 * i) + 2 = nI (5 * i + 1 + 1) from nI_add _ 2, show nI (5 * i) + 3 = nI (5 * i + 1 + 2) from nI_add _ 3, show nI (5 * i) + 4 = nI (5 * i + 1 + 3) from nI_add _ 4, nI_clamp (n := 5 * i) (by omega), nI_clamp (n := 5 * i + 1 + 0) (by omega), nI_clamp (n := 5 * i + 1 + 1) (by omega), nI_clamp (n := 5 * i + 1 + 2) (by omega), nI_clamp (n := 5 * i + 1 + 3) (by omega), g1, e0, if_pos (po_ibd (i := 5 * i + 1 + 0) (n := 150) (by omega) (by decide)), Option.bind_some, if_pos (po_ibd (i := 5 * i + 1 + 1) (n := 150) (by omega) (by decide)), Option.bind_some, if_pos (po_ibd (i := 5 * i + 1 + 2) (n := 150) (by omega) (by decide)), Option.bind_some, if_pos (po_ibd (i := 5 * i) (n := 150) (by omega) (by decide)), if_neg (show ¬ nI 4 = 0 by decide), if_neg (show ¬ nI 4 = 1 by decide), if_neg (show ¬ nI 4 = 2 by decide), if_neg (show ¬ nI 4 = 3 by decide), if_pos (show nI 4 = 4 from rfl)]
theorem td_4 {r : Nat} (HQ : sm_Q L h) (hL : L[i]? = some (4, [r])) (hi : i < 30) : gX11_doIt (nI (5 * i)) h = (gX11_cancelIt (nI r) h).bind (fun x => some x.2) := by
  obtain ⟨g1, g2⟩ := HQ i _ hL
  dsimp only at g1
  have e0 := g2 0 r rfl
  unfold gX11_doIt
  rw [show nI (5 * i) + 1 = nI (5 * i + 1 + 0) from nI_add _ 1, show nI (5 * i) + 2 = nI (5 * i + 1 + 1) from nI_add _ 2, show nI (5 * i) + 3 = nI (5 * i + 1 + 2) from nI_add _ 3, show nI (5 * i) + 4 = nI (5 * i + 1 + 3) from nI_add _ 4, nI_clamp (n := 5 * i) (by omega), nI_clamp (n := 5 * i + 1 + 0) (by omega), nI_clamp (n := 5 * i + 1 + 1) (by omega), nI_clamp (n := 5 * i + 1 + 2) (by omega), nI_clamp (n := 5 * i + 1 + 3) (by omega), g1, e0, if_pos (po_ibd (i := 5 * i + 1 + 0) (n := 150) (by omega) (by decide)), Option.bind_some, if_pos (po_ibd (i := 5 * i + 1 + 1) (n := 150) (by omega) (by decide)), Option.bind_some, if_pos (po_ibd (i := 5 * i + 1 + 2) (n := 150) (by omega) (by decide)), Option.bind_some, if_pos (po_ibd (i := 5 * i) (n := 150) (by omega) (by decide)), if_neg (show ¬ nI 4 = 0 by decide), if_neg (show ¬ nI 4 = 1 by decide), if_neg (show ¬ nI 4 = 2 by decide), if_neg (show ¬ nI 4 = 3 by decide), if_pos (show nI 4 = 4 from rfl)]
theorem tr_5 {r : Nat} (HQ : sc_Q L h) (hL : L[i]? = some (5, [r])) (hi : i < 30) : gX10_refusalOfCommand (nI i) h = gX10_refusalOfOpenOnly (nI r) h := by
  obtain ⟨g1, g2⟩ := HQ.2 i _ hL
  dsimp only at g1
  have e0 := g2 0 r rfl
  unfold gX10_refusalOfCommand
  rw [tc_ga (j := 0) (x := 0) hi (by decide) rfl, e0, Option.bind_some, tc_ga (j := 1) (x := 1) hi (by decide) rfl, Option.bind_some, tc_ga (j := 2) (x := 2) hi (by decide) rfl, Option.bind_some, tc_gc hi g1, Option.bind_some, if_neg (show ¬ nI 5 = 0 by decide), if_neg (show ¬ nI 5 = 1 by decide), if_neg (show ¬ nI 5 = 2 by decide), if_neg (show ¬ nI 5 = 3 by decide), if_neg (show ¬ nI 5 = 4 by decide), if_pos (show nI 5 = 5 from rfl), po_etb]
theorem tp_5 {r : Nat} (HQ : sc_Q L h) (hL : L[i]? = some (5, [r])) (hi : i < 30) : gX10_performCommand (nI i) h = (gX7_refillReservation 21 (nI r) h).bind (fun x => some x.2) := by
  obtain ⟨g1, g2⟩ := HQ.2 i _ hL
  dsimp only at g1
  have e0 := g2 0 r rfl
  unfold gX10_performCommand
  rw [tc_ga (j := 0) (x := 0) hi (by decide) rfl, e0, Option.bind_some, tc_ga (j := 1) (x := 1) hi (by decide) rfl, Option.bind_some, tc_ga (j := 2) (x := 2) hi (by decide) rfl, Option.bind_some, tc_gc hi g1, Option.bind_some, if_neg (show ¬ nI 5 = 0 by decide), if_neg (show ¬ nI 5 = 1 by decide), if_neg (show ¬ nI 5 = 2 by decide), if_neg (show ¬ nI 5 = 3 by decide), if_neg (show ¬ nI 5 = 4 by decide), if_pos (show nI 5 = 5 from rfl)]
theorem tk_5 {r : Nat} (HQ : sm_Q L h) (hL : L[i]? = some (5, [r])) (hi : i < 30) : gX11_canDo (nI (5 * i)) h = (gX11_isReservation (nI r) h).bind (fun (x : Bool) => if x = true then (gX11_isOpenOne (nI r) h).bind (fun (y : Bool) => if y = true then some true else some false) else some false) := by
  obtain ⟨g1, g2⟩ := HQ i _ hL
  dsimp only at g1
  have e0 := g2 0 r rfl
  unfold gX11_canDo
  rw [show nI (5 * i) + 1 = nI (5 * i + 1 + 0) from nI_add _ 1, show nI (5 * i) + 2 = nI (5 * i + 1 + 1) from nI_add _ 2, show nI (5 * i) + 3 = nI (5 * i + 1 + 2) from nI_add _ 3, show nI (5 * i) + 4 = nI (5 * i + 1 + 3) from nI_add _ 4, nI_clamp (n := 5 * i) (by omega), nI_clamp (n := 5 * i + 1 + 0) (by omega), nI_clamp (n := 5 * i + 1 + 1) (by omega), nI_clamp (n := 5 * i + 1 + 2) (by omega), nI_clamp (n := 5 * i + 1 + 3) (by omega), g1, e0, if_pos (po_ibd (i := 5 * i + 1 + 0) (n := 150) (by omega) (by decide)), Option.bind_some, if_pos (po_ibd (i := 5 * i + 1 + 1) (n := 150) (by omega) (by decide)), Option.bind_some, if_pos (po_ibd (i := 5 * i + 1 + 2) (n := 150) (by omega) (by decide)), Option.bind_some, if_pos (po_ibd (i := 5 * i) (n := 150) (by omega) (by decide)), if_neg (show ¬ nI 5 = 0 by decide), if_neg (show ¬ nI 5 = 1 by decide), if_neg (show ¬ nI 5 = 2 by decide), if_neg (show ¬ nI 5 = 3 by decide), if_neg (show ¬ nI 5 = 4 by decide), if_pos (show nI 5 = 5 from rfl)]
theorem td_5 {r : Nat} (HQ : sm_Q L h) (hL : L[i]? = some (5, [r])) (hi : i < 30) : gX11_doIt (nI (5 * i)) h = (gX11_refillIt (nI r) h).bind (fun x => some x.2) := by
  obtain ⟨g1, g2⟩ := HQ i _ hL
  dsimp only at g1
  have e0 := g2 0 r rfl
  unfold gX11_doIt
  rw [show nI (5 * i) + 1 = nI (5 * i + 1 + 0) from nI_add _ 1, show nI (5 * i) + 2 = nI (5 * i + 1 + 1) from nI_add _ 2, show nI (5 * i) + 3 = nI (5 * i + 1 + 2) from nI_add _ 3, show nI (5 * i) + 4 = nI (5 * i + 1 + 3) from nI_add _ 4, nI_clamp (n := 5 * i) (by omega), nI_clamp (n := 5 * i + 1 + 0) (by omega), nI_clamp (n := 5 * i + 1 + 1) (by omega), nI_clamp (n := 5 * i + 1 + 2) (by omega), nI_clamp (n := 5 * i + 1 + 3) (by omega), g1, e0, if_pos (po_ibd (i := 5 * i + 1 + 0) (n := 150) (by omega) (by decide)), Option.bind_some, if_pos (po_ibd (i := 5 * i + 1 + 1) (n := 150) (by omega) (by decide)), Option.bind_some, if_pos (po_ibd (i := 5 * i + 1 + 2) (n := 150) (by omega) (by decide)), Option.bind_some, if_pos (po_ibd (i := 5 * i) (n := 150) (by omega) (by decide)), if_neg (show ¬ nI 5 = 0 by decide), if_neg (show ¬ nI 5 = 1 by decide), if_neg (show ¬ nI 5 = 2 by decide), if_neg (show ¬ nI 5 = 3 by decide), if_neg (show ¬ nI 5 = 4 by decide), if_pos (show nI 5 = 5 from rfl)]
theorem tr_6 {b q : Nat} (HQ : sc_Q L h) (hL : L[i]? = some (6, [b, q])) (hi : i < 30) : gX10_refusalOfCommand (nI i) h = gX10_refusalOfCount (nI b) (nI q) h := by
  obtain ⟨g1, g2⟩ := HQ.2 i _ hL
  dsimp only at g1
  have e0 := g2 0 b rfl
  have e1 := g2 1 q rfl
  unfold gX10_refusalOfCommand
  rw [tc_ga (j := 0) (x := 0) hi (by decide) rfl, e0, Option.bind_some, tc_ga (j := 1) (x := 1) hi (by decide) rfl, e1, Option.bind_some, tc_ga (j := 2) (x := 2) hi (by decide) rfl, Option.bind_some, tc_gc hi g1, Option.bind_some, if_neg (show ¬ nI 6 = 0 by decide), if_neg (show ¬ nI 6 = 1 by decide), if_neg (show ¬ nI 6 = 2 by decide), if_neg (show ¬ nI 6 = 3 by decide), if_neg (show ¬ nI 6 = 4 by decide), if_neg (show ¬ nI 6 = 5 by decide), if_pos (show nI 6 = 6 from rfl), po_etb]
theorem tp_6 {b q : Nat} (HQ : sc_Q L h) (hL : L[i]? = some (6, [b, q])) (hi : i < 30) : gX10_performCommand (nI i) h = (gX7_countBatch 21 (nI b) (nI q) h).bind (fun x => some x.2) := by
  obtain ⟨g1, g2⟩ := HQ.2 i _ hL
  dsimp only at g1
  have e0 := g2 0 b rfl
  have e1 := g2 1 q rfl
  unfold gX10_performCommand
  rw [tc_ga (j := 0) (x := 0) hi (by decide) rfl, e0, Option.bind_some, tc_ga (j := 1) (x := 1) hi (by decide) rfl, e1, Option.bind_some, tc_ga (j := 2) (x := 2) hi (by decide) rfl, Option.bind_some, tc_gc hi g1, Option.bind_some, if_neg (show ¬ nI 6 = 0 by decide), if_neg (show ¬ nI 6 = 1 by decide), if_neg (show ¬ nI 6 = 2 by decide), if_neg (show ¬ nI 6 = 3 by decide), if_neg (show ¬ nI 6 = 4 by decide), if_neg (show ¬ nI 6 = 5 by decide), if_pos (show nI 6 = 6 from rfl)]
theorem tk_6 {b q : Nat} (HQ : sm_Q L h) (hL : L[i]? = some (6, [b, q])) (hi : i < 30) : gX11_canDo (nI (5 * i)) h = (gX11_isBatch (nI b) h).bind (fun (x : Bool) => if x = true then (if 999 < nI q then some false else (gX11_held (nI b) h).bind (fun (y : Int32) => if nI q < y then some false else some true)) else some false) := by
  obtain ⟨g1, g2⟩ := HQ i _ hL
  dsimp only at g1
  have e0 := g2 0 b rfl
  have e1 := g2 1 q rfl
  unfold gX11_canDo
  rw [show nI (5 * i) + 1 = nI (5 * i + 1 + 0) from nI_add _ 1, show nI (5 * i) + 2 = nI (5 * i + 1 + 1) from nI_add _ 2, show nI (5 * i) + 3 = nI (5 * i + 1 + 2) from nI_add _ 3, show nI (5 * i) + 4 = nI (5 * i + 1 + 3) from nI_add _ 4, nI_clamp (n := 5 * i) (by omega), nI_clamp (n := 5 * i + 1 + 0) (by omega), nI_clamp (n := 5 * i + 1 + 1) (by omega), nI_clamp (n := 5 * i + 1 + 2) (by omega), nI_clamp (n := 5 * i + 1 + 3) (by omega), g1, e0, e1, if_pos (po_ibd (i := 5 * i + 1 + 0) (n := 150) (by omega) (by decide)), Option.bind_some, if_pos (po_ibd (i := 5 * i + 1 + 1) (n := 150) (by omega) (by decide)), Option.bind_some, if_pos (po_ibd (i := 5 * i + 1 + 2) (n := 150) (by omega) (by decide)), Option.bind_some, if_pos (po_ibd (i := 5 * i) (n := 150) (by omega) (by decide)), if_neg (show ¬ nI 6 = 0 by decide), if_neg (show ¬ nI 6 = 1 by decide), if_neg (show ¬ nI 6 = 2 by decide), if_neg (show ¬ nI 6 = 3 by decide), if_neg (show ¬ nI 6 = 4 by decide), if_neg (show ¬ nI 6 = 5 by decide), if_pos (show nI 6 = 6 from rfl)]
theorem td_6 {b q : Nat} (HQ : sm_Q L h) (hL : L[i]? = some (6, [b, q])) (hi : i < 30) : gX11_doIt (nI (5 * i)) h = (gX11_countIt (nI b) (nI q) h).bind (fun x => some x.2) := by
  obtain ⟨g1, g2⟩ := HQ i _ hL
  dsimp only at g1
  have e0 := g2 0 b rfl
  have e1 := g2 1 q rfl
  unfold gX11_doIt
  rw [show nI (5 * i) + 1 = nI (5 * i + 1 + 0) from nI_add _ 1, show nI (5 * i) + 2 = nI (5 * i + 1 + 1) from nI_add _ 2, show nI (5 * i) + 3 = nI (5 * i + 1 + 2) from nI_add _ 3, show nI (5 * i) + 4 = nI (5 * i + 1 + 3) from nI_add _ 4, nI_clamp (n := 5 * i) (by omega), nI_clamp (n := 5 * i + 1 + 0) (by omega), nI_clamp (n := 5 * i + 1 + 1) (by omega), nI_clamp (n := 5 * i + 1 + 2) (by omega), nI_clamp (n := 5 * i + 1 + 3) (by omega), g1, e0, e1, if_pos (po_ibd (i := 5 * i + 1 + 0) (n := 150) (by omega) (by decide)), Option.bind_some, if_pos (po_ibd (i := 5 * i + 1 + 1) (n := 150) (by omega) (by decide)), Option.bind_some, if_pos (po_ibd (i := 5 * i + 1 + 2) (n := 150) (by omega) (by decide)), Option.bind_some, if_pos (po_ibd (i := 5 * i) (n := 150) (by omega) (by decide)), if_neg (show ¬ nI 6 = 0 by decide), if_neg (show ¬ nI 6 = 1 by decide), if_neg (show ¬ nI 6 = 2 by decide), if_neg (show ¬ nI 6 = 3 by decide), if_neg (show ¬ nI 6 = 4 by decide), if_neg (show ¬ nI 6 = 5 by decide), if_pos (show nI 6 = 6 from rfl)]
theorem tr_7 (HQ : sc_Q L h) (hL : L[i]? = some (7, [])) (hi : i < 30) : gX10_refusalOfCommand (nI i) h = some 0 := by
  obtain ⟨g1, g2⟩ := HQ.2 i _ hL
  dsimp only at g1
  unfold gX10_refusalOfCommand
  rw [tc_ga (j := 0) (x := 0) hi (by decide) rfl, Option.bind_some, tc_ga (j := 1) (x := 1) hi (by decide) rfl, Option.bind_some, tc_ga (j := 2) (x := 2) hi (by decide) rfl, Option.bind_some, tc_gc hi g1, Option.bind_some, if_neg (show ¬ nI 7 = 0 by decide), if_neg (show ¬ nI 7 = 1 by decide), if_neg (show ¬ nI 7 = 2 by decide), if_neg (show ¬ nI 7 = 3 by decide), if_neg (show ¬ nI 7 = 4 by decide), if_neg (show ¬ nI 7 = 5 by decide), if_neg (show ¬ nI 7 = 6 by decide), if_pos (show nI 7 = 7 from rfl)]
theorem tp_7 (HQ : sc_Q L h) (hL : L[i]? = some (7, [])) (hi : i < 30) : gX10_performCommand (nI i) h = (gX7_writeOffExpiredBatches 21 h).bind (fun x => some x.2) := by
  obtain ⟨g1, g2⟩ := HQ.2 i _ hL
  dsimp only at g1
  unfold gX10_performCommand
  rw [tc_ga (j := 0) (x := 0) hi (by decide) rfl, Option.bind_some, tc_ga (j := 1) (x := 1) hi (by decide) rfl, Option.bind_some, tc_ga (j := 2) (x := 2) hi (by decide) rfl, Option.bind_some, tc_gc hi g1, Option.bind_some, if_neg (show ¬ nI 7 = 0 by decide), if_neg (show ¬ nI 7 = 1 by decide), if_neg (show ¬ nI 7 = 2 by decide), if_neg (show ¬ nI 7 = 3 by decide), if_neg (show ¬ nI 7 = 4 by decide), if_neg (show ¬ nI 7 = 5 by decide), if_neg (show ¬ nI 7 = 6 by decide), if_pos (show nI 7 = 7 from rfl)]
theorem tk_7 (HQ : sm_Q L h) (hL : L[i]? = some (7, [])) (hi : i < 30) : gX11_canDo (nI (5 * i)) h = some true := by
  obtain ⟨g1, g2⟩ := HQ i _ hL
  dsimp only at g1
  unfold gX11_canDo
  rw [show nI (5 * i) + 1 = nI (5 * i + 1 + 0) from nI_add _ 1, show nI (5 * i) + 2 = nI (5 * i + 1 + 1) from nI_add _ 2, show nI (5 * i) + 3 = nI (5 * i + 1 + 2) from nI_add _ 3, show nI (5 * i) + 4 = nI (5 * i + 1 + 3) from nI_add _ 4, nI_clamp (n := 5 * i) (by omega), nI_clamp (n := 5 * i + 1 + 0) (by omega), nI_clamp (n := 5 * i + 1 + 1) (by omega), nI_clamp (n := 5 * i + 1 + 2) (by omega), nI_clamp (n := 5 * i + 1 + 3) (by omega), g1, if_pos (po_ibd (i := 5 * i + 1 + 0) (n := 150) (by omega) (by decide)), Option.bind_some, if_pos (po_ibd (i := 5 * i + 1 + 1) (n := 150) (by omega) (by decide)), Option.bind_some, if_pos (po_ibd (i := 5 * i + 1 + 2) (n := 150) (by omega) (by decide)), Option.bind_some, if_pos (po_ibd (i := 5 * i) (n := 150) (by omega) (by decide)), if_neg (show ¬ nI 7 = 0 by decide), if_neg (show ¬ nI 7 = 1 by decide), if_neg (show ¬ nI 7 = 2 by decide), if_neg (show ¬ nI 7 = 3 by decide), if_neg (show ¬ nI 7 = 4 by decide), if_neg (show ¬ nI 7 = 5 by decide), if_neg (show ¬ nI 7 = 6 by decide), if_pos (show nI 7 = 7 from rfl)]
theorem td_7 (HQ : sm_Q L h) (hL : L[i]? = some (7, [])) (hi : i < 30) : gX11_doIt (nI (5 * i)) h = (gX11_writeOff h).bind (fun x => some x.2) := by
  obtain ⟨g1, g2⟩ := HQ i _ hL
  dsimp only at g1
  unfold gX11_doIt
  rw [show nI (5 * i) + 1 = nI (5 * i + 1 + 0) from nI_add _ 1, show nI (5 * i) + 2 = nI (5 * i + 1 + 1) from nI_add _ 2, show nI (5 * i) + 3 = nI (5 * i + 1 + 2) from nI_add _ 3, show nI (5 * i) + 4 = nI (5 * i + 1 + 3) from nI_add _ 4, nI_clamp (n := 5 * i) (by omega), nI_clamp (n := 5 * i + 1 + 0) (by omega), nI_clamp (n := 5 * i + 1 + 1) (by omega), nI_clamp (n := 5 * i + 1 + 2) (by omega), nI_clamp (n := 5 * i + 1 + 3) (by omega), g1, if_pos (po_ibd (i := 5 * i + 1 + 0) (n := 150) (by omega) (by decide)), Option.bind_some, if_pos (po_ibd (i := 5 * i + 1 + 1) (n := 150) (by omega) (by decide)), Option.bind_some, if_pos (po_ibd (i := 5 * i + 1 + 2) (n := 150) (by omega) (by decide)), Option.bind_some, if_pos (po_ibd (i := 5 * i) (n := 150) (by omega) (by decide)), if_neg (show ¬ nI 7 = 0 by decide), if_neg (show ¬ nI 7 = 1 by decide), if_neg (show ¬ nI 7 = 2 by decide), if_neg (show ¬ nI 7 = 3 by decide), if_neg (show ¬ nI 7 = 4 by decide), if_neg (show ¬ nI 7 = 5 by decide), if_neg (show ¬ nI 7 = 6 by decide), if_pos (show nI 7 = 7 from rfl)]
theorem tr_8 {d : Nat} (HQ : sc_Q L h) (hL : L[i]? = some (8, [d])) (hi : i < 30) : gX10_refusalOfCommand (nI i) h = gX10_refusalOfDays (nI d) h := by
  obtain ⟨g1, g2⟩ := HQ.2 i _ hL
  dsimp only at g1
  have e0 := g2 0 d rfl
  unfold gX10_refusalOfCommand
  rw [tc_ga (j := 0) (x := 0) hi (by decide) rfl, e0, Option.bind_some, tc_ga (j := 1) (x := 1) hi (by decide) rfl, Option.bind_some, tc_ga (j := 2) (x := 2) hi (by decide) rfl, Option.bind_some, tc_gc hi g1, Option.bind_some, if_neg (show ¬ nI 8 = 0 by decide), if_neg (show ¬ nI 8 = 1 by decide), if_neg (show ¬ nI 8 = 2 by decide), if_neg (show ¬ nI 8 = 3 by decide), if_neg (show ¬ nI 8 = 4 by decide), if_neg (show ¬ nI 8 = 5 by decide), if_neg (show ¬ nI 8 = 6 by decide), if_neg (show ¬ nI 8 = 7 by decide), if_pos (show nI 8 = 8 from rfl), po_etb]
theorem tp_8 {d : Nat} (HQ : sc_Q L h) (hL : L[i]? = some (8, [d])) (hi : i < 30) : gX10_performCommand (nI i) h = (gX7_advance 21 (nI d) h).bind (fun x => some x.2) := by
  obtain ⟨g1, g2⟩ := HQ.2 i _ hL
  dsimp only at g1
  have e0 := g2 0 d rfl
  unfold gX10_performCommand
  rw [tc_ga (j := 0) (x := 0) hi (by decide) rfl, e0, Option.bind_some, tc_ga (j := 1) (x := 1) hi (by decide) rfl, Option.bind_some, tc_ga (j := 2) (x := 2) hi (by decide) rfl, Option.bind_some, tc_gc hi g1, Option.bind_some, if_neg (show ¬ nI 8 = 0 by decide), if_neg (show ¬ nI 8 = 1 by decide), if_neg (show ¬ nI 8 = 2 by decide), if_neg (show ¬ nI 8 = 3 by decide), if_neg (show ¬ nI 8 = 4 by decide), if_neg (show ¬ nI 8 = 5 by decide), if_neg (show ¬ nI 8 = 6 by decide), if_neg (show ¬ nI 8 = 7 by decide), if_pos (show nI 8 = 8 from rfl)]
theorem tk_8 {d : Nat} (HQ : sm_Q L h) (hL : L[i]? = some (8, [d])) (hi : i < 30) : gX11_canDo (nI (5 * i)) h = (gX11_in (nI d) 1 999 h).bind (fun (x : Bool) => if x = true then (if mm_ibd 0 4200 = true then (if 9999 < (mh_I h 353 (Int32.toNatClampNeg 0)) + nI d then some false else some true) else none) else some false) := by
  obtain ⟨g1, g2⟩ := HQ i _ hL
  dsimp only at g1
  have e0 := g2 0 d rfl
  unfold gX11_canDo
  rw [show nI (5 * i) + 1 = nI (5 * i + 1 + 0) from nI_add _ 1, show nI (5 * i) + 2 = nI (5 * i + 1 + 1) from nI_add _ 2, show nI (5 * i) + 3 = nI (5 * i + 1 + 2) from nI_add _ 3, show nI (5 * i) + 4 = nI (5 * i + 1 + 3) from nI_add _ 4, nI_clamp (n := 5 * i) (by omega), nI_clamp (n := 5 * i + 1 + 0) (by omega), nI_clamp (n := 5 * i + 1 + 1) (by omega), nI_clamp (n := 5 * i + 1 + 2) (by omega), nI_clamp (n := 5 * i + 1 + 3) (by omega), g1, e0, if_pos (po_ibd (i := 5 * i + 1 + 0) (n := 150) (by omega) (by decide)), Option.bind_some, if_pos (po_ibd (i := 5 * i + 1 + 1) (n := 150) (by omega) (by decide)), Option.bind_some, if_pos (po_ibd (i := 5 * i + 1 + 2) (n := 150) (by omega) (by decide)), Option.bind_some, if_pos (po_ibd (i := 5 * i) (n := 150) (by omega) (by decide)), if_neg (show ¬ nI 8 = 0 by decide), if_neg (show ¬ nI 8 = 1 by decide), if_neg (show ¬ nI 8 = 2 by decide), if_neg (show ¬ nI 8 = 3 by decide), if_neg (show ¬ nI 8 = 4 by decide), if_neg (show ¬ nI 8 = 5 by decide), if_neg (show ¬ nI 8 = 6 by decide), if_neg (show ¬ nI 8 = 7 by decide)]
theorem td_8 {d : Nat} (HQ : sm_Q L h) (hL : L[i]? = some (8, [d])) (hi : i < 30) : gX11_doIt (nI (5 * i)) h = (gX11_daysIt (nI d) h).bind (fun x => some x.2) := by
  obtain ⟨g1, g2⟩ := HQ i _ hL
  dsimp only at g1
  have e0 := g2 0 d rfl
  unfold gX11_doIt
  rw [show nI (5 * i) + 1 = nI (5 * i + 1 + 0) from nI_add _ 1, show nI (5 * i) + 2 = nI (5 * i + 1 + 1) from nI_add _ 2, show nI (5 * i) + 3 = nI (5 * i + 1 + 2) from nI_add _ 3, show nI (5 * i) + 4 = nI (5 * i + 1 + 3) from nI_add _ 4, nI_clamp (n := 5 * i) (by omega), nI_clamp (n := 5 * i + 1 + 0) (by omega), nI_clamp (n := 5 * i + 1 + 1) (by omega), nI_clamp (n := 5 * i + 1 + 2) (by omega), nI_clamp (n := 5 * i + 1 + 3) (by omega), g1, e0, if_pos (po_ibd (i := 5 * i + 1 + 0) (n := 150) (by omega) (by decide)), Option.bind_some, if_pos (po_ibd (i := 5 * i + 1 + 1) (n := 150) (by omega) (by decide)), Option.bind_some, if_pos (po_ibd (i := 5 * i + 1 + 2) (n := 150) (by omega) (by decide)), Option.bind_some, if_pos (po_ibd (i := 5 * i) (n := 150) (by omega) (by decide)), if_neg (show ¬ nI 8 = 0 by decide), if_neg (show ¬ nI 8 = 1 by decide), if_neg (show ¬ nI 8 = 2 by decide), if_neg (show ¬ nI 8 = 3 by decide), if_neg (show ¬ nI 8 = 4 by decide), if_neg (show ¬ nI 8 = 5 by decide), if_neg (show ¬ nI 8 = 6 by decide), if_neg (show ¬ nI 8 = 7 by decide)]
end PRC

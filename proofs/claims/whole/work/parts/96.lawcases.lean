section PRH
/-! the law: its cases (gen95.py) -/
variable {A : sp_A} {h : mm_H} {i : Int32} {j : mm_H → Option (Bool × mm_H)}
def lw_g (i : Int32) (h : mm_H) : Prop := mm_isb (i + 1) (mh_I h 360 0) = true ∧ mm_isb (i + 2) (mh_I h 360 0) = true ∧ mm_isb (i + 3) (mh_I h 360 0) = true ∧ mm_isb (i + 4) (mh_I h 360 0) = true ∧ mm_isb (i + 5) (mh_I h 360 0) = true
def lw_K (h : mm_H) (f j : mm_H → Option (Bool × mm_H)) : Prop := ∃ A' h2, f h = j h2 ∧ lw_R A' h2 ∧ lw_st h h2
theorem cs_304 (g : lw_g i h) (H : lw_R A h) : lw_K h (gL_c304 i j) j := by
  obtain ⟨A', h1, h2, t, v, e1, k1, e2, e3, e4, r, l⟩ := lw_at (op_runp_w (op_run_w (op_append (mh_I h 360 (Int32.toNatClampNeg (i + 1) + 1)) (mh_I h 360 (Int32.toNatClampNeg (i + 2) + 1)) (mh_I h 360 (Int32.toNatClampNeg (i + 3) + 1)) (mh_I h 360 (Int32.toNatClampNeg (i + 4) + 1)) (mh_I h 360 (Int32.toNatClampNeg (i + 5) + 1))))) (lw_append (mh_I h 360 (Int32.toNatClampNeg (i + 1) + 1)) (mh_I h 360 (Int32.toNatClampNeg (i + 2) + 1)) (mh_I h 360 (Int32.toNatClampNeg (i + 3) + 1)) (mh_I h 360 (Int32.toNatClampNeg (i + 4) + 1)) (mh_I h 360 (Int32.toNatClampNeg (i + 5) + 1))) (fun h v => ⟨rfl, rfl⟩) H
  refine ⟨A', h2, ?_, r, l⟩
  unfold gL_c304
  rw [if_pos g.1, if_pos g.2.1, if_pos g.2.2.1, if_pos g.2.2.2.1, if_pos g.2.2.2.2, e1, Option.bind_some]
  dsimp only
  rw [k1, if_pos g.1, if_pos g.2.1, if_pos g.2.2.1, if_pos g.2.2.2.1, if_pos g.2.2.2.2, e2, Option.bind_some]
  dsimp only
  rw [show gX11_thrown h2 = some t from congrArg some e3, Option.bind_some, if_pos rfl]
  refine po_jn (fun k2 q2 => ?_)
  by_cases ht : t = 0
  · obtain ⟨pv, x, e5, e6⟩ := e4 ht
    rw [if_pos ht, if_pos po_ib1, e5, if_pos (show lg_cmp (mh_J (lw_pJ x v) 358 (Int32.toNatClampNeg 0)) v.toInt64 = 0 from lw_cmp x _), q2]
  · rw [if_neg ht, q2]
theorem cs_408 (g : lw_g i h) (H : lw_R A h) : lw_K h (gL_c408 i j) j := by
  obtain ⟨A', h1, h2, t, v, e1, k1, e2, e3, e4, r, l⟩ := lw_at (op_runp_w (op_run_w (op_truncate (mh_I h 360 (Int32.toNatClampNeg (i + 1) + 1))))) (lw_truncate (mh_I h 360 (Int32.toNatClampNeg (i + 1) + 1))) (fun h v => ⟨rfl, rfl⟩) H
  refine ⟨A', h2, ?_, r, l⟩
  unfold gL_c408
  rw [if_pos g.1, e1, Option.bind_some]
  dsimp only
  rw [k1, if_pos g.1, e2, Option.bind_some]
  dsimp only
  rw [show gX11_thrown h2 = some t from congrArg some e3, Option.bind_some, if_pos rfl]
  refine po_jn (fun k2 q2 => ?_)
  by_cases ht : t = 0
  · obtain ⟨pv, x, e5, e6⟩ := e4 ht
    rw [if_pos ht, if_pos po_ib1, e5, if_pos (show lg_cmp (mh_J (lw_pJ x v) 358 (Int32.toNatClampNeg 0)) v.toInt64 = 0 from lw_cmp x _), q2]
  · rw [if_neg ht, q2]
theorem cs_464 (g : lw_g i h) (H : lw_R A h) : lw_K h (gL_c464 i j) j := by
  obtain ⟨A', h1, h2, t, v, e1, k1, e2, e3, e4, r, l⟩ := lw_at (op_runp_w (op_load)) (lw_load) (fun h v => ⟨rfl, rfl⟩) H
  refine ⟨A', h2, ?_, r, l⟩
  unfold gL_c464
  rw [e1, Option.bind_some]
  dsimp only
  rw [e2, Option.bind_some]
  dsimp only
  rw [show gX11_thrown h2 = some t from congrArg some e3, Option.bind_some, if_pos rfl]
  refine po_jn (fun k2 q2 => ?_)
  by_cases ht : t = 0
  · obtain ⟨pv, x, e5, e6⟩ := e4 ht
    rw [if_pos ht, if_pos po_ib1, e5, if_pos (show lg_cmp (mh_J (lw_pJ x v) 358 (Int32.toNatClampNeg 0)) v.toInt64 = 0 from lw_cmp x _), q2]
  · rw [if_neg ht, q2]
theorem cs_508 (g : lw_g i h) (H : lw_R A h) : lw_K h (gL_c508 i j) j := by
  obtain ⟨h2, v, e1, e2, r, l⟩ := lw_pl op_errorCode H
  refine ⟨A, h2, ?_, r, l⟩
  unfold gL_c508
  rw [e1, Option.bind_some, e2, Option.bind_some, if_pos rfl]
theorem cs_521 (g : lw_g i h) (H : lw_R A h) : lw_K h (gL_c521 i j) j := by
  obtain ⟨h2, v, e1, e2, r, l⟩ := lw_pl op_errorPosition H
  refine ⟨A, h2, ?_, r, l⟩
  unfold gL_c521
  rw [e1, Option.bind_some, e2, Option.bind_some, if_pos rfl]
theorem cs_534 (g : lw_g i h) (H : lw_R A h) : lw_K h (gL_c534 i j) j := by
  obtain ⟨h2, v, e1, e2, r, l⟩ := lw_pl op_productCount H
  refine ⟨A, h2, ?_, r, l⟩
  unfold gL_c534
  rw [e1, Option.bind_some, e2, Option.bind_some, if_pos rfl]
theorem cs_547 (g : lw_g i h) (H : lw_R A h) : lw_K h (gL_c547 i j) j := by
  obtain ⟨h2, v, e1, e2, r, l⟩ := lw_pl op_day H
  refine ⟨A, h2, ?_, r, l⟩
  unfold gL_c547
  rw [e1, Option.bind_some, e2, Option.bind_some, if_pos rfl]
theorem cs_560 (g : lw_g i h) (H : lw_R A h) : lw_K h (gL_c560 i j) j := by
  obtain ⟨A', h1, h2, t, v, e1, k1, e2, e3, e4, r, l⟩ := lw_at (op_runp_w (op_run_w (op_nameByte (mh_I h 360 (Int32.toNatClampNeg (i + 1) + 1)) (mh_I h 360 (Int32.toNatClampNeg (i + 2) + 1))))) (lw_nameByte (mh_I h 360 (Int32.toNatClampNeg (i + 1) + 1)) (mh_I h 360 (Int32.toNatClampNeg (i + 2) + 1))) (fun h v => ⟨rfl, rfl⟩) H
  refine ⟨A', h2, ?_, r, l⟩
  unfold gL_c560
  rw [if_pos g.1, if_pos g.2.1, e1, Option.bind_some]
  dsimp only
  rw [k1, if_pos g.1, if_pos g.2.1, e2, Option.bind_some]
  dsimp only
  rw [show gX11_thrown h2 = some t from congrArg some e3, Option.bind_some, if_pos rfl]
  refine po_jn (fun k2 q2 => ?_)
  by_cases ht : t = 0
  · obtain ⟨pv, x, e5, e6⟩ := e4 ht
    rw [if_pos ht, if_pos po_ib1, e5, if_pos (show lg_cmp (mh_J (lw_pJ x v) 358 (Int32.toNatClampNeg 0)) v.toInt64 = 0 from lw_cmp x _), q2]
  · rw [if_neg ht, q2]
theorem cs_628 (g : lw_g i h) (H : lw_R A h) : lw_K h (gL_c628 i j) j := by
  obtain ⟨A', h1, h2, t, v, e1, k1, e2, e3, e4, r, l⟩ := lw_at (op_runp_w (op_run_w (op_findProduct))) (lw_findProduct) (fun h v => ⟨rfl, rfl⟩) H
  refine ⟨A', h2, ?_, r, l⟩
  unfold gL_c628
  rw [e1, Option.bind_some]
  dsimp only
  rw [e2, Option.bind_some]
  dsimp only
  rw [show gX11_thrown h2 = some t from congrArg some e3, Option.bind_some, if_pos rfl]
  refine po_jn (fun k2 q2 => ?_)
  by_cases ht : t = 0
  · obtain ⟨pv, x, e5, e6⟩ := e4 ht
    rw [if_pos ht, if_pos po_ib1, e5, if_pos (show lg_cmp (mh_J (lw_pJ x v) 358 (Int32.toNatClampNeg 0)) v.toInt64 = 0 from lw_cmp x _), q2]
  · rw [if_neg ht, q2]
theorem cs_672 (g : lw_g i h) (H : lw_R A h) : lw_K h (gL_c672 i j) j := by
  obtain ⟨A', h1, h2, t, v, e1, k1, e2, e3, e4, r, l⟩ := lw_at (op_runp_w (op_run_w (op_minimumStock (mh_I h 360 (Int32.toNatClampNeg (i + 1) + 1))))) (lw_minimumStock (mh_I h 360 (Int32.toNatClampNeg (i + 1) + 1))) (fun h v => ⟨rfl, rfl⟩) H
  refine ⟨A', h2, ?_, r, l⟩
  unfold gL_c672
  rw [if_pos g.1, e1, Option.bind_some]
  dsimp only
  rw [k1, if_pos g.1, e2, Option.bind_some]
  dsimp only
  rw [show gX11_thrown h2 = some t from congrArg some e3, Option.bind_some, if_pos rfl]
  refine po_jn (fun k2 q2 => ?_)
  by_cases ht : t = 0
  · obtain ⟨pv, x, e5, e6⟩ := e4 ht
    rw [if_pos ht, if_pos po_ib1, e5, if_pos (show lg_cmp (mh_J (lw_pJ x v) 358 (Int32.toNatClampNeg 0)) v.toInt64 = 0 from lw_cmp x _), q2]
  · rw [if_neg ht, q2]
theorem cs_728 (g : lw_g i h) (H : lw_R A h) : lw_K h (gL_c728 i j) j := by
  obtain ⟨A', h1, h2, t, v, e1, k1, e2, e3, e4, r, l⟩ := lw_at (op_runp_w (op_run_w (op_onHand (mh_I h 360 (Int32.toNatClampNeg (i + 1) + 1))))) (lw_onHand (mh_I h 360 (Int32.toNatClampNeg (i + 1) + 1))) (fun h v => ⟨rfl, rfl⟩) H
  refine ⟨A', h2, ?_, r, l⟩
  unfold gL_c728
  rw [if_pos g.1, e1, Option.bind_some]
  dsimp only
  rw [k1, if_pos g.1, e2, Option.bind_some]
  dsimp only
  rw [show gX11_thrown h2 = some t from congrArg some e3, Option.bind_some, if_pos rfl]
  refine po_jn (fun k2 q2 => ?_)
  by_cases ht : t = 0
  · obtain ⟨pv, x, e5, e6⟩ := e4 ht
    rw [if_pos ht, if_pos po_ib1, e5, if_pos (show lg_cmp (mh_J (lw_pJ x v) 358 (Int32.toNatClampNeg 0)) v.toInt64 = 0 from lw_cmp x _), q2]
  · rw [if_neg ht, q2]
theorem cs_784 (g : lw_g i h) (H : lw_R A h) : lw_K h (gL_c784 i j) j := by
  obtain ⟨A', h1, h2, t, v, e1, k1, e2, e3, e4, r, l⟩ := lw_at (op_runp_w (op_run_w (op_reserved (mh_I h 360 (Int32.toNatClampNeg (i + 1) + 1))))) (lw_reserved (mh_I h 360 (Int32.toNatClampNeg (i + 1) + 1))) (fun h v => ⟨rfl, rfl⟩) H
  refine ⟨A', h2, ?_, r, l⟩
  unfold gL_c784
  rw [if_pos g.1, e1, Option.bind_some]
  dsimp only
  rw [k1, if_pos g.1, e2, Option.bind_some]
  dsimp only
  rw [show gX11_thrown h2 = some t from congrArg some e3, Option.bind_some, if_pos rfl]
  refine po_jn (fun k2 q2 => ?_)
  by_cases ht : t = 0
  · obtain ⟨pv, x, e5, e6⟩ := e4 ht
    rw [if_pos ht, if_pos po_ib1, e5, if_pos (show lg_cmp (mh_J (lw_pJ x v) 358 (Int32.toNatClampNeg 0)) v.toInt64 = 0 from lw_cmp x _), q2]
  · rw [if_neg ht, q2]
theorem cs_840 (g : lw_g i h) (H : lw_R A h) : lw_K h (gL_c840 i j) j := by
  obtain ⟨A', h1, h2, t, v, e1, k1, e2, e3, e4, r, l⟩ := lw_at (op_runp_w (op_run_w (op_availableOn (mh_I h 360 (Int32.toNatClampNeg (i + 1) + 1)) (mh_I h 360 (Int32.toNatClampNeg (i + 2) + 1))))) (lw_availableOn (mh_I h 360 (Int32.toNatClampNeg (i + 1) + 1)) (mh_I h 360 (Int32.toNatClampNeg (i + 2) + 1))) (fun h v => ⟨rfl, rfl⟩) H
  refine ⟨A', h2, ?_, r, l⟩
  unfold gL_c840
  rw [if_pos g.1, if_pos g.2.1, e1, Option.bind_some]
  dsimp only
  rw [k1, if_pos g.1, if_pos g.2.1, e2, Option.bind_some]
  dsimp only
  rw [show gX11_thrown h2 = some t from congrArg some e3, Option.bind_some, if_pos rfl]
  refine po_jn (fun k2 q2 => ?_)
  by_cases ht : t = 0
  · obtain ⟨pv, x, e5, e6⟩ := e4 ht
    rw [if_pos ht, if_pos po_ib1, e5, if_pos (show lg_cmp (mh_J (lw_pJ x v) 358 (Int32.toNatClampNeg 0)) v.toInt64 = 0 from lw_cmp x _), q2]
  · rw [if_neg ht, q2]
theorem cs_908 (g : lw_g i h) (H : lw_R A h) : lw_K h (gL_c908 i j) j := by
  obtain ⟨A', h1, h2, t, v, e1, k1, e2, e3, e4, r, l⟩ := lw_at (op_runp_w (op_run_w (op_expired (mh_I h 360 (Int32.toNatClampNeg (i + 1) + 1))))) (lw_expired (mh_I h 360 (Int32.toNatClampNeg (i + 1) + 1))) (fun h v => ⟨rfl, rfl⟩) H
  refine ⟨A', h2, ?_, r, l⟩
  unfold gL_c908
  rw [if_pos g.1, e1, Option.bind_some]
  dsimp only
  rw [k1, if_pos g.1, e2, Option.bind_some]
  dsimp only
  rw [show gX11_thrown h2 = some t from congrArg some e3, Option.bind_some, if_pos rfl]
  refine po_jn (fun k2 q2 => ?_)
  by_cases ht : t = 0
  · obtain ⟨pv, x, e5, e6⟩ := e4 ht
    rw [if_pos ht, if_pos po_ib1, e5, if_pos (show lg_cmp (mh_J (lw_pJ x v) 358 (Int32.toNatClampNeg 0)) v.toInt64 = 0 from lw_cmp x _), q2]
  · rw [if_neg ht, q2]
theorem cs_964 (g : lw_g i h) (H : lw_R A h) : lw_K h (gL_c964 i j) j := by
  obtain ⟨A', h1, h2, t, v, e1, k1, e2, e3, e4, r, l⟩ := lw_at (op_runp_w (op_run_w (op_expiringWithin (mh_I h 360 (Int32.toNatClampNeg (i + 1) + 1)) (mh_I h 360 (Int32.toNatClampNeg (i + 2) + 1))))) (lw_expiringWithin (mh_I h 360 (Int32.toNatClampNeg (i + 1) + 1)) (mh_I h 360 (Int32.toNatClampNeg (i + 2) + 1))) (fun h v => ⟨rfl, rfl⟩) H
  refine ⟨A', h2, ?_, r, l⟩
  unfold gL_c964
  rw [if_pos g.1, if_pos g.2.1, e1, Option.bind_some]
  dsimp only
  rw [k1, if_pos g.1, if_pos g.2.1, e2, Option.bind_some]
  dsimp only
  rw [show gX11_thrown h2 = some t from congrArg some e3, Option.bind_some, if_pos rfl]
  refine po_jn (fun k2 q2 => ?_)
  by_cases ht : t = 0
  · obtain ⟨pv, x, e5, e6⟩ := e4 ht
    rw [if_pos ht, if_pos po_ib1, e5, if_pos (show lg_cmp (mh_J (lw_pJ x v) 358 (Int32.toNatClampNeg 0)) v.toInt64 = 0 from lw_cmp x _), q2]
  · rw [if_neg ht, q2]
theorem cs_1032 (g : lw_g i h) (H : lw_R A h) : lw_K h (gL_c1032 i j) j := by
  obtain ⟨A', h1, h2, t, v, e1, k1, e2, e3, e4, r, l⟩ := lw_at (op_runp_w (op_run_w (op_stockValue (mh_I h 360 (Int32.toNatClampNeg (i + 1) + 1))))) (lw_stockValue (mh_I h 360 (Int32.toNatClampNeg (i + 1) + 1))) (fun h v => ⟨rfl, rfl⟩) H
  refine ⟨A', h2, ?_, r, l⟩
  unfold gL_c1032
  rw [if_pos g.1, e1, Option.bind_some]
  dsimp only
  rw [k1, if_pos g.1, e2, Option.bind_some]
  dsimp only
  rw [show gX11_thrown h2 = some t from congrArg some e3, Option.bind_some, if_pos rfl]
  refine po_jn (fun k2 q2 => ?_)
  by_cases ht : t = 0
  · obtain ⟨pv, x, e5, e6⟩ := e4 ht
    rw [if_pos ht, if_pos po_ib1, e5, if_pos (show lg_cmp (mh_J (lw_pJ x v) 358 (Int32.toNatClampNeg 0)) v.toInt64 = 0 from lw_cmp x _), q2]
  · rw [if_neg ht, q2]
theorem cs_1088 (g : lw_g i h) (H : lw_R A h) : lw_K h (gL_c1088 i j) j := by
  obtain ⟨h2, v, e1, e2, r, l⟩ := lw_pl op_totalValue H
  refine ⟨A, h2, ?_, r, l⟩
  unfold gL_c1088
  rw [e1, Option.bind_some, e2, Option.bind_some, if_pos rfl]
theorem cs_1101 (g : lw_g i h) (H : lw_R A h) : lw_K h (gL_c1101 i j) j := by
  obtain ⟨A', h1, h2, t, v, e1, k1, e2, e3, e4, r, l⟩ := lw_at (op_runp_w (op_run_w (op_reorderQuantity (mh_I h 360 (Int32.toNatClampNeg (i + 1) + 1))))) (lw_reorderQuantity (mh_I h 360 (Int32.toNatClampNeg (i + 1) + 1))) (fun h v => ⟨rfl, rfl⟩) H
  refine ⟨A', h2, ?_, r, l⟩
  unfold gL_c1101
  rw [if_pos g.1, e1, Option.bind_some]
  dsimp only
  rw [k1, if_pos g.1, e2, Option.bind_some]
  dsimp only
  rw [show gX11_thrown h2 = some t from congrArg some e3, Option.bind_some, if_pos rfl]
  refine po_jn (fun k2 q2 => ?_)
  by_cases ht : t = 0
  · obtain ⟨pv, x, e5, e6⟩ := e4 ht
    rw [if_pos ht, if_pos po_ib1, e5, if_pos (show lg_cmp (mh_J (lw_pJ x v) 358 (Int32.toNatClampNeg 0)) v.toInt64 = 0 from lw_cmp x _), q2]
  · rw [if_neg ht, q2]
theorem cs_1157 (g : lw_g i h) (H : lw_R A h) : lw_K h (gL_c1157 i j) j := by
  obtain ⟨h2, v, e1, e2, r, l⟩ := lw_pl op_reorderCount H
  refine ⟨A, h2, ?_, r, l⟩
  unfold gL_c1157
  rw [e1, Option.bind_some, e2, Option.bind_some, if_pos rfl]
theorem cs_1170 (g : lw_g i h) (H : lw_R A h) : lw_K h (gL_c1170 i j) j := by
  obtain ⟨h2, v, e1, e2, r, l⟩ := lw_pl op_batchCount H
  refine ⟨A, h2, ?_, r, l⟩
  unfold gL_c1170
  rw [e1, Option.bind_some, e2, Option.bind_some, if_pos rfl]
theorem cs_1183 (g : lw_g i h) (H : lw_R A h) : lw_K h (gL_c1183 i j) j := by
  obtain ⟨A', h1, h2, t, v, e1, k1, e2, e3, e4, r, l⟩ := lw_at (op_runp_w (op_run_w (op_productOf (mh_I h 360 (Int32.toNatClampNeg (i + 1) + 1))))) (lw_productOf (mh_I h 360 (Int32.toNatClampNeg (i + 1) + 1))) (fun h v => ⟨rfl, rfl⟩) H
  refine ⟨A', h2, ?_, r, l⟩
  unfold gL_c1183
  rw [if_pos g.1, e1, Option.bind_some]
  dsimp only
  rw [k1, if_pos g.1, e2, Option.bind_some]
  dsimp only
  rw [show gX11_thrown h2 = some t from congrArg some e3, Option.bind_some, if_pos rfl]
  refine po_jn (fun k2 q2 => ?_)
  by_cases ht : t = 0
  · obtain ⟨pv, x, e5, e6⟩ := e4 ht
    rw [if_pos ht, if_pos po_ib1, e5, if_pos (show lg_cmp (mh_J (lw_pJ x v) 358 (Int32.toNatClampNeg 0)) v.toInt64 = 0 from lw_cmp x _), q2]
  · rw [if_neg ht, q2]
theorem cs_1239 (g : lw_g i h) (H : lw_R A h) : lw_K h (gL_c1239 i j) j := by
  obtain ⟨A', h1, h2, t, v, e1, k1, e2, e3, e4, r, l⟩ := lw_at (op_runp_w (op_run_w (op_quantity (mh_I h 360 (Int32.toNatClampNeg (i + 1) + 1))))) (lw_quantity (mh_I h 360 (Int32.toNatClampNeg (i + 1) + 1))) (fun h v => ⟨rfl, rfl⟩) H
  refine ⟨A', h2, ?_, r, l⟩
  unfold gL_c1239
  rw [if_pos g.1, e1, Option.bind_some]
  dsimp only
  rw [k1, if_pos g.1, e2, Option.bind_some]
  dsimp only
  rw [show gX11_thrown h2 = some t from congrArg some e3, Option.bind_some, if_pos rfl]
  refine po_jn (fun k2 q2 => ?_)
  by_cases ht : t = 0
  · obtain ⟨pv, x, e5, e6⟩ := e4 ht
    rw [if_pos ht, if_pos po_ib1, e5, if_pos (show lg_cmp (mh_J (lw_pJ x v) 358 (Int32.toNatClampNeg 0)) v.toInt64 = 0 from lw_cmp x _), q2]
  · rw [if_neg ht, q2]
theorem cs_1295 (g : lw_g i h) (H : lw_R A h) : lw_K h (gL_c1295 i j) j := by
  obtain ⟨A', h1, h2, t, v, e1, k1, e2, e3, e4, r, l⟩ := lw_at (op_runp_w (op_run_w (op_reservedOf (mh_I h 360 (Int32.toNatClampNeg (i + 1) + 1))))) (lw_reservedOf (mh_I h 360 (Int32.toNatClampNeg (i + 1) + 1))) (fun h v => ⟨rfl, rfl⟩) H
  refine ⟨A', h2, ?_, r, l⟩
  unfold gL_c1295
  rw [if_pos g.1, e1, Option.bind_some]
  dsimp only
  rw [k1, if_pos g.1, e2, Option.bind_some]
  dsimp only
  rw [show gX11_thrown h2 = some t from congrArg some e3, Option.bind_some, if_pos rfl]
  refine po_jn (fun k2 q2 => ?_)
  by_cases ht : t = 0
  · obtain ⟨pv, x, e5, e6⟩ := e4 ht
    rw [if_pos ht, if_pos po_ib1, e5, if_pos (show lg_cmp (mh_J (lw_pJ x v) 358 (Int32.toNatClampNeg 0)) v.toInt64 = 0 from lw_cmp x _), q2]
  · rw [if_neg ht, q2]
theorem cs_1351 (g : lw_g i h) (H : lw_R A h) : lw_K h (gL_c1351 i j) j := by
  obtain ⟨A', h1, h2, t, v, e1, k1, e2, e3, e4, r, l⟩ := lw_at (op_runp_w (op_run_w (op_expiryDay (mh_I h 360 (Int32.toNatClampNeg (i + 1) + 1))))) (lw_expiryDay (mh_I h 360 (Int32.toNatClampNeg (i + 1) + 1))) (fun h v => ⟨rfl, rfl⟩) H
  refine ⟨A', h2, ?_, r, l⟩
  unfold gL_c1351
  rw [if_pos g.1, e1, Option.bind_some]
  dsimp only
  rw [k1, if_pos g.1, e2, Option.bind_some]
  dsimp only
  rw [show gX11_thrown h2 = some t from congrArg some e3, Option.bind_some, if_pos rfl]
  refine po_jn (fun k2 q2 => ?_)
  by_cases ht : t = 0
  · obtain ⟨pv, x, e5, e6⟩ := e4 ht
    rw [if_pos ht, if_pos po_ib1, e5, if_pos (show lg_cmp (mh_J (lw_pJ x v) 358 (Int32.toNatClampNeg 0)) v.toInt64 = 0 from lw_cmp x _), q2]
  · rw [if_neg ht, q2]
theorem cs_1407 (g : lw_g i h) (H : lw_R A h) : lw_K h (gL_c1407 i j) j := by
  obtain ⟨A', h1, h2, t, v, e1, k1, e2, e3, e4, r, l⟩ := lw_at (op_runp_w (op_run_w (op_unitCost (mh_I h 360 (Int32.toNatClampNeg (i + 1) + 1))))) (lw_unitCost (mh_I h 360 (Int32.toNatClampNeg (i + 1) + 1))) (fun h v => ⟨rfl, rfl⟩) H
  refine ⟨A', h2, ?_, r, l⟩
  unfold gL_c1407
  rw [if_pos g.1, e1, Option.bind_some]
  dsimp only
  rw [k1, if_pos g.1, e2, Option.bind_some]
  dsimp only
  rw [show gX11_thrown h2 = some t from congrArg some e3, Option.bind_some, if_pos rfl]
  refine po_jn (fun k2 q2 => ?_)
  by_cases ht : t = 0
  · obtain ⟨pv, x, e5, e6⟩ := e4 ht
    rw [if_pos ht, if_pos po_ib1, e5, if_pos (show lg_cmp (mh_J (lw_pJ x v) 358 (Int32.toNatClampNeg 0)) v.toInt64 = 0 from lw_cmp x _), q2]
  · rw [if_neg ht, q2]
theorem cs_1463 (g : lw_g i h) (H : lw_R A h) : lw_K h (gL_c1463 i j) j := by
  obtain ⟨A', h1, h2, t, v, e1, k1, e2, e3, e4, r, l⟩ := lw_at (op_runp_w (op_run_w (op_isExpired (mh_I h 360 (Int32.toNatClampNeg (i + 1) + 1))))) (lw_isExpired (mh_I h 360 (Int32.toNatClampNeg (i + 1) + 1))) (fun h v => ⟨rfl, rfl⟩) H
  refine ⟨A', h2, ?_, r, l⟩
  unfold gL_c1463
  rw [if_pos g.1, e1, Option.bind_some]
  dsimp only
  rw [k1, if_pos g.1, e2, Option.bind_some]
  dsimp only
  rw [show gX11_thrown h2 = some t from congrArg some e3, Option.bind_some, if_pos rfl]
  refine po_jn (fun k2 q2 => ?_)
  by_cases ht : t = 0
  · obtain ⟨pv, x, e5, e6⟩ := e4 ht
    rw [if_pos ht, if_pos po_ib1]
    refine po_jn (fun k3 q3 => ?_)
    cases v
    · rw [if_neg Bool.false_ne_true, q3]
      dsimp only
      rw [e5, if_pos (show lg_cmp (mh_J (lw_pB x false) 358 (Int32.toNatClampNeg 0)) 0 = 0 from lw_cmp x 0), q2]
    · rw [if_pos rfl, q3]
      dsimp only
      rw [e5, if_pos (show lg_cmp (mh_J (lw_pB x true) 358 (Int32.toNatClampNeg 0)) 1 = 0 from lw_cmp x 1), q2]
  · rw [if_neg ht, q2]
theorem cs_1526 (g : lw_g i h) (H : lw_R A h) : lw_K h (gL_c1526 i j) j := by
  obtain ⟨A', h1, h2, t, v, e1, k1, e2, e3, e4, r, l⟩ := lw_at (op_runp_w (op_run_w (op_issueOrder (mh_I h 360 (Int32.toNatClampNeg (i + 1) + 1)) (mh_I h 360 (Int32.toNatClampNeg (i + 2) + 1))))) (lw_issueOrder (mh_I h 360 (Int32.toNatClampNeg (i + 1) + 1)) (mh_I h 360 (Int32.toNatClampNeg (i + 2) + 1))) (fun h v => ⟨rfl, rfl⟩) H
  refine ⟨A', h2, ?_, r, l⟩
  unfold gL_c1526
  rw [if_pos g.1, if_pos g.2.1, e1, Option.bind_some]
  dsimp only
  rw [k1, if_pos g.1, if_pos g.2.1, e2, Option.bind_some]
  dsimp only
  rw [show gX11_thrown h2 = some t from congrArg some e3, Option.bind_some, if_pos rfl]
  refine po_jn (fun k2 q2 => ?_)
  by_cases ht : t = 0
  · obtain ⟨pv, x, e5, e6⟩ := e4 ht
    rw [if_pos ht, if_pos po_ib1, e5, if_pos (show lg_cmp (mh_J (lw_pJ x v) 358 (Int32.toNatClampNeg 0)) v.toInt64 = 0 from lw_cmp x _), q2]
  · rw [if_neg ht, q2]
theorem cs_1594 (g : lw_g i h) (H : lw_R A h) : lw_K h (gL_c1594 i j) j := by
  obtain ⟨A', h1, h2, t, v, e1, k1, e2, e3, e4, r, l⟩ := lw_at (op_runp_w (op_run_w (op_costOfIssue (mh_I h 360 (Int32.toNatClampNeg (i + 1) + 1)) (mh_I h 360 (Int32.toNatClampNeg (i + 2) + 1))))) (lw_costOfIssue (mh_I h 360 (Int32.toNatClampNeg (i + 1) + 1)) (mh_I h 360 (Int32.toNatClampNeg (i + 2) + 1))) (fun h v => ⟨rfl, rfl⟩) H
  refine ⟨A', h2, ?_, r, l⟩
  unfold gL_c1594
  rw [if_pos g.1, if_pos g.2.1, e1, Option.bind_some]
  dsimp only
  rw [k1, if_pos g.1, if_pos g.2.1, e2, Option.bind_some]
  dsimp only
  rw [show gX11_thrown h2 = some t from congrArg some e3, Option.bind_some, if_pos rfl]
  refine po_jn (fun k2 q2 => ?_)
  by_cases ht : t = 0
  · obtain ⟨pv, x, e5, e6⟩ := e4 ht
    rw [if_pos ht, if_pos po_ib1, e5, if_pos (show lg_cmp (mh_J (lw_pJ x v) 358 (Int32.toNatClampNeg 0)) v.toInt64 = 0 from lw_cmp x _), q2]
  · rw [if_neg ht, q2]
theorem cs_1662 (g : lw_g i h) (H : lw_R A h) : lw_K h (gL_c1662 i j) j := by
  obtain ⟨h2, v, e1, e2, r, l⟩ := lw_pl op_reservationCount H
  refine ⟨A, h2, ?_, r, l⟩
  unfold gL_c1662
  rw [e1, Option.bind_some, e2, Option.bind_some, if_pos rfl]
theorem cs_1675 (g : lw_g i h) (H : lw_R A h) : lw_K h (gL_c1675 i j) j := by
  obtain ⟨A', h1, h2, t, v, e1, k1, e2, e3, e4, r, l⟩ := lw_at (op_runp_w (op_run_w (op_reservedProduct (mh_I h 360 (Int32.toNatClampNeg (i + 1) + 1))))) (lw_reservedProduct (mh_I h 360 (Int32.toNatClampNeg (i + 1) + 1))) (fun h v => ⟨rfl, rfl⟩) H
  refine ⟨A', h2, ?_, r, l⟩
  unfold gL_c1675
  rw [if_pos g.1, e1, Option.bind_some]
  dsimp only
  rw [k1, if_pos g.1, e2, Option.bind_some]
  dsimp only
  rw [show gX11_thrown h2 = some t from congrArg some e3, Option.bind_some, if_pos rfl]
  refine po_jn (fun k2 q2 => ?_)
  by_cases ht : t = 0
  · obtain ⟨pv, x, e5, e6⟩ := e4 ht
    rw [if_pos ht, if_pos po_ib1, e5, if_pos (show lg_cmp (mh_J (lw_pJ x v) 358 (Int32.toNatClampNeg 0)) v.toInt64 = 0 from lw_cmp x _), q2]
  · rw [if_neg ht, q2]
theorem cs_1731 (g : lw_g i h) (H : lw_R A h) : lw_K h (gL_c1731 i j) j := by
  obtain ⟨A', h1, h2, t, v, e1, k1, e2, e3, e4, r, l⟩ := lw_at (op_runp_w (op_run_w (op_reservedQuantity (mh_I h 360 (Int32.toNatClampNeg (i + 1) + 1))))) (lw_reservedQuantity (mh_I h 360 (Int32.toNatClampNeg (i + 1) + 1))) (fun h v => ⟨rfl, rfl⟩) H
  refine ⟨A', h2, ?_, r, l⟩
  unfold gL_c1731
  rw [if_pos g.1, e1, Option.bind_some]
  dsimp only
  rw [k1, if_pos g.1, e2, Option.bind_some]
  dsimp only
  rw [show gX11_thrown h2 = some t from congrArg some e3, Option.bind_some, if_pos rfl]
  refine po_jn (fun k2 q2 => ?_)
  by_cases ht : t = 0
  · obtain ⟨pv, x, e5, e6⟩ := e4 ht
    rw [if_pos ht, if_pos po_ib1, e5, if_pos (show lg_cmp (mh_J (lw_pJ x v) 358 (Int32.toNatClampNeg 0)) v.toInt64 = 0 from lw_cmp x _), q2]
  · rw [if_neg ht, q2]
theorem cs_1787 (g : lw_g i h) (H : lw_R A h) : lw_K h (gL_c1787 i j) j := by
  obtain ⟨A', h1, h2, t, v, e1, k1, e2, e3, e4, r, l⟩ := lw_at (op_runp_w (op_run_w (op_isOpen (mh_I h 360 (Int32.toNatClampNeg (i + 1) + 1))))) (lw_isOpen (mh_I h 360 (Int32.toNatClampNeg (i + 1) + 1))) (fun h v => ⟨rfl, rfl⟩) H
  refine ⟨A', h2, ?_, r, l⟩
  unfold gL_c1787
  rw [if_pos g.1, e1, Option.bind_some]
  dsimp only
  rw [k1, if_pos g.1, e2, Option.bind_some]
  dsimp only
  rw [show gX11_thrown h2 = some t from congrArg some e3, Option.bind_some, if_pos rfl]
  refine po_jn (fun k2 q2 => ?_)
  by_cases ht : t = 0
  · obtain ⟨pv, x, e5, e6⟩ := e4 ht
    rw [if_pos ht, if_pos po_ib1]
    refine po_jn (fun k3 q3 => ?_)
    cases v
    · rw [if_neg Bool.false_ne_true, q3]
      dsimp only
      rw [e5, if_pos (show lg_cmp (mh_J (lw_pB x false) 358 (Int32.toNatClampNeg 0)) 0 = 0 from lw_cmp x 0), q2]
    · rw [if_pos rfl, q3]
      dsimp only
      rw [e5, if_pos (show lg_cmp (mh_J (lw_pB x true) 358 (Int32.toNatClampNeg 0)) 1 = 0 from lw_cmp x 1), q2]
  · rw [if_neg ht, q2]
theorem cs_1850 (g : lw_g i h) (H : lw_R A h) : lw_K h (gL_c1850 i j) j := by
  obtain ⟨A', h1, h2, t, v, e1, k1, e2, e3, e4, r, l⟩ := lw_at (op_runp_w (op_run_w (op_missing (mh_I h 360 (Int32.toNatClampNeg (i + 1) + 1))))) (lw_missing (mh_I h 360 (Int32.toNatClampNeg (i + 1) + 1))) (fun h v => ⟨rfl, rfl⟩) H
  refine ⟨A', h2, ?_, r, l⟩
  unfold gL_c1850
  rw [if_pos g.1, e1, Option.bind_some]
  dsimp only
  rw [k1, if_pos g.1, e2, Option.bind_some]
  dsimp only
  rw [show gX11_thrown h2 = some t from congrArg some e3, Option.bind_some, if_pos rfl]
  refine po_jn (fun k2 q2 => ?_)
  by_cases ht : t = 0
  · obtain ⟨pv, x, e5, e6⟩ := e4 ht
    rw [if_pos ht, if_pos po_ib1, e5, if_pos (show lg_cmp (mh_J (lw_pJ x v) 358 (Int32.toNatClampNeg 0)) v.toInt64 = 0 from lw_cmp x _), q2]
  · rw [if_neg ht, q2]
theorem cs_1906 (g : lw_g i h) (H : lw_R A h) : lw_K h (gL_c1906 i j) j := by
  obtain ⟨A', h1, h2, t, v, e1, k1, e2, e3, e4, r, l⟩ := lw_at (op_runp_w (op_run_w (op_allocation (mh_I h 360 (Int32.toNatClampNeg (i + 1) + 1)) (mh_I h 360 (Int32.toNatClampNeg (i + 2) + 1))))) (lw_allocation (mh_I h 360 (Int32.toNatClampNeg (i + 1) + 1)) (mh_I h 360 (Int32.toNatClampNeg (i + 2) + 1))) (fun h v => ⟨rfl, rfl⟩) H
  refine ⟨A', h2, ?_, r, l⟩
  unfold gL_c1906
  rw [if_pos g.1, if_pos g.2.1, e1, Option.bind_some]
  dsimp only
  rw [k1, if_pos g.1, if_pos g.2.1, e2, Option.bind_some]
  dsimp only
  rw [show gX11_thrown h2 = some t from congrArg some e3, Option.bind_some, if_pos rfl]
  refine po_jn (fun k2 q2 => ?_)
  by_cases ht : t = 0
  · obtain ⟨pv, x, e5, e6⟩ := e4 ht
    rw [if_pos ht, if_pos po_ib1, e5, if_pos (show lg_cmp (mh_J (lw_pJ x v) 358 (Int32.toNatClampNeg 0)) v.toInt64 = 0 from lw_cmp x _), q2]
  · rw [if_neg ht, q2]
theorem cs_1974 (g : lw_g i h) (H : lw_R A h) : lw_K h (gL_c1974 i j) j := by
  obtain ⟨A', h1, h2, t, v, e1, k1, e2, e3, e4, r, l⟩ := lw_at (op_runp_w (op_run_w (op_whyNotShipped (mh_I h 360 (Int32.toNatClampNeg (i + 1) + 1))))) (lw_whyNotShipped (mh_I h 360 (Int32.toNatClampNeg (i + 1) + 1))) (fun h v => ⟨rfl, rfl⟩) H
  refine ⟨A', h2, ?_, r, l⟩
  unfold gL_c1974
  rw [if_pos g.1, e1, Option.bind_some]
  dsimp only
  rw [k1, if_pos g.1, e2, Option.bind_some]
  dsimp only
  rw [show gX11_thrown h2 = some t from congrArg some e3, Option.bind_some, if_pos rfl]
  refine po_jn (fun k2 q2 => ?_)
  by_cases ht : t = 0
  · obtain ⟨pv, x, e5, e6⟩ := e4 ht
    rw [if_pos ht, if_pos po_ib1, e5, if_pos (show lg_cmp (mh_J (lw_pJ x v) 358 (Int32.toNatClampNeg 0)) v.toInt64 = 0 from lw_cmp x _), q2]
  · rw [if_neg ht, q2]
theorem cs_2030 (g : lw_g i h) (H : lw_R A h) : lw_K h (gL_c2030 i j) j := by
  obtain ⟨h2, v, e1, e2, r, l⟩ := lw_pl op_endangeredReservations H
  refine ⟨A, h2, ?_, r, l⟩
  unfold gL_c2030
  rw [e1, Option.bind_some, e2, Option.bind_some, if_pos rfl]
theorem cs_2043 (g : lw_g i h) (H : lw_R A h) : lw_K h (gL_c2043 i j) j := by
  obtain ⟨A', h1, h2, t, v, e1, k1, e2, e3, e4, r, l⟩ := lw_at (op_runp_w (op_run_w (op_receivedUnits (mh_I h 360 (Int32.toNatClampNeg (i + 1) + 1))))) (lw_receivedUnits (mh_I h 360 (Int32.toNatClampNeg (i + 1) + 1))) (fun h v => ⟨rfl, rfl⟩) H
  refine ⟨A', h2, ?_, r, l⟩
  unfold gL_c2043
  rw [if_pos g.1, e1, Option.bind_some]
  dsimp only
  rw [k1, if_pos g.1, e2, Option.bind_some]
  dsimp only
  rw [show gX11_thrown h2 = some t from congrArg some e3, Option.bind_some, if_pos rfl]
  refine po_jn (fun k2 q2 => ?_)
  by_cases ht : t = 0
  · obtain ⟨pv, x, e5, e6⟩ := e4 ht
    rw [if_pos ht, if_pos po_ib1, e5, if_pos (show lg_cmp (mh_J (lw_pJ x v) 358 (Int32.toNatClampNeg 0)) v.toInt64 = 0 from lw_cmp x _), q2]
  · rw [if_neg ht, q2]
theorem cs_2099 (g : lw_g i h) (H : lw_R A h) : lw_K h (gL_c2099 i j) j := by
  obtain ⟨A', h1, h2, t, v, e1, k1, e2, e3, e4, r, l⟩ := lw_at (op_runp_w (op_run_w (op_deliveredUnits (mh_I h 360 (Int32.toNatClampNeg (i + 1) + 1))))) (lw_deliveredUnits (mh_I h 360 (Int32.toNatClampNeg (i + 1) + 1))) (fun h v => ⟨rfl, rfl⟩) H
  refine ⟨A', h2, ?_, r, l⟩
  unfold gL_c2099
  rw [if_pos g.1, e1, Option.bind_some]
  dsimp only
  rw [k1, if_pos g.1, e2, Option.bind_some]
  dsimp only
  rw [show gX11_thrown h2 = some t from congrArg some e3, Option.bind_some, if_pos rfl]
  refine po_jn (fun k2 q2 => ?_)
  by_cases ht : t = 0
  · obtain ⟨pv, x, e5, e6⟩ := e4 ht
    rw [if_pos ht, if_pos po_ib1, e5, if_pos (show lg_cmp (mh_J (lw_pJ x v) 358 (Int32.toNatClampNeg 0)) v.toInt64 = 0 from lw_cmp x _), q2]
  · rw [if_neg ht, q2]
theorem cs_2155 (g : lw_g i h) (H : lw_R A h) : lw_K h (gL_c2155 i j) j := by
  obtain ⟨A', h1, h2, t, v, e1, k1, e2, e3, e4, r, l⟩ := lw_at (op_runp_w (op_run_w (op_writtenOffUnits (mh_I h 360 (Int32.toNatClampNeg (i + 1) + 1))))) (lw_writtenOffUnits (mh_I h 360 (Int32.toNatClampNeg (i + 1) + 1))) (fun h v => ⟨rfl, rfl⟩) H
  refine ⟨A', h2, ?_, r, l⟩
  unfold gL_c2155
  rw [if_pos g.1, e1, Option.bind_some]
  dsimp only
  rw [k1, if_pos g.1, e2, Option.bind_some]
  dsimp only
  rw [show gX11_thrown h2 = some t from congrArg some e3, Option.bind_some, if_pos rfl]
  refine po_jn (fun k2 q2 => ?_)
  by_cases ht : t = 0
  · obtain ⟨pv, x, e5, e6⟩ := e4 ht
    rw [if_pos ht, if_pos po_ib1, e5, if_pos (show lg_cmp (mh_J (lw_pJ x v) 358 (Int32.toNatClampNeg 0)) v.toInt64 = 0 from lw_cmp x _), q2]
  · rw [if_neg ht, q2]
theorem cs_2211 (g : lw_g i h) (H : lw_R A h) : lw_K h (gL_c2211 i j) j := by
  obtain ⟨A', h1, h2, t, v, e1, k1, e2, e3, e4, r, l⟩ := lw_at (op_runp_w (op_run_w (op_adjustment (mh_I h 360 (Int32.toNatClampNeg (i + 1) + 1))))) (lw_adjustment (mh_I h 360 (Int32.toNatClampNeg (i + 1) + 1))) (fun h v => ⟨rfl, rfl⟩) H
  refine ⟨A', h2, ?_, r, l⟩
  unfold gL_c2211
  rw [if_pos g.1, e1, Option.bind_some]
  dsimp only
  rw [k1, if_pos g.1, e2, Option.bind_some]
  dsimp only
  rw [show gX11_thrown h2 = some t from congrArg some e3, Option.bind_some, if_pos rfl]
  refine po_jn (fun k2 q2 => ?_)
  by_cases ht : t = 0
  · obtain ⟨pv, x, e5, e6⟩ := e4 ht
    rw [if_pos ht, if_pos po_ib1, e5, if_pos (show lg_cmp (mh_J (lw_pJ x v) 358 (Int32.toNatClampNeg 0)) v.toInt64 = 0 from lw_cmp x _), q2]
  · rw [if_neg ht, q2]
theorem cs_2267 (g : lw_g i h) (H : lw_R A h) : lw_K h (gL_c2267 i j) j := by
  obtain ⟨A', h1, h2, t, v, e1, k1, e2, e3, e4, r, l⟩ := lw_at (op_runp_w (op_run_w (op_meanCost (mh_I h 360 (Int32.toNatClampNeg (i + 1) + 1))))) (lw_meanCost (mh_I h 360 (Int32.toNatClampNeg (i + 1) + 1))) (fun h v => ⟨rfl, rfl⟩) H
  refine ⟨A', h2, ?_, r, l⟩
  unfold gL_c2267
  rw [if_pos g.1, e1, Option.bind_some]
  dsimp only
  rw [k1, if_pos g.1, e2, Option.bind_some]
  dsimp only
  rw [show gX11_thrown h2 = some t from congrArg some e3, Option.bind_some, if_pos rfl]
  refine po_jn (fun k2 q2 => ?_)
  by_cases ht : t = 0
  · obtain ⟨pv, x, e5, e6⟩ := e4 ht
    rw [if_pos ht, if_pos po_ib1, e6, show mh_D (lw_pD x v) 359 (Int32.toNatClampNeg 0) = v from lw_D x v]
    by_cases hz : (Op.cmpValue (FP.dcmp v v) .l) = 0
    · rw [if_pos hz, q2]
    · rw [if_neg hz, if_pos po_ib1, if_pos po_ib1, if_neg hz, if_neg hz, q2]
  · rw [if_neg ht, q2]
theorem cs_2344 (g : lw_g i h) (H : lw_R A h) : lw_K h (gL_c2344 i j) j := by
  obtain ⟨A', h1, h2, t, v, e1, k1, e2, e3, e4, r, l⟩ := lw_at (op_wastep (mh_I h 360 (Int32.toNatClampNeg (i + 1) + 1))) (lw_wasteShare (mh_I h 360 (Int32.toNatClampNeg (i + 1) + 1))) (fun h v => ⟨rfl, rfl⟩) H
  refine ⟨A', h2, ?_, r, l⟩
  unfold gL_c2344
  rw [if_pos g.1, e1, Option.bind_some]
  dsimp only
  rw [k1, if_pos g.1, e2, Option.bind_some]
  dsimp only
  rw [show gX11_thrown h2 = some t from congrArg some e3, Option.bind_some, if_pos rfl]
  refine po_jn (fun k2 q2 => ?_)
  by_cases ht : t = 0
  · obtain ⟨pv, x, e5, e6⟩ := e4 ht
    rw [if_pos ht, if_pos po_ib1, if_pos pv, e6, show mh_D (lw_pF x v) 359 (Int32.toNatClampNeg 0) = FP.f2d v from lw_D x _, if_pos (lw_nn pv), q2]
  · rw [if_neg ht, q2]
theorem cs_2422 (g : lw_g i h) (H : lw_R A h) : lw_K h (gL_c2422 i j) j := by
  obtain ⟨h2, v, e1, e2, r, l⟩ := lw_pl op_inconsistencies H
  refine ⟨A, h2, ?_, r, l⟩
  unfold gL_c2422
  rw [e1, Option.bind_some, e2, Option.bind_some, if_pos rfl]
theorem cs_2435 (g : lw_g i h) (H : lw_R A h) : lw_K h (gL_c2435 i j) j := by
  obtain ⟨A', h1, h2, t, v, e1, k1, e2, e3, e4, r, l⟩ := lw_at (op_runp_w (op_run_w (op_daysUntilShortage (mh_I h 360 (Int32.toNatClampNeg (i + 1) + 1)) (mh_I h 360 (Int32.toNatClampNeg (i + 2) + 1))))) (lw_daysUntilShortage (mh_I h 360 (Int32.toNatClampNeg (i + 1) + 1)) (mh_I h 360 (Int32.toNatClampNeg (i + 2) + 1))) (fun h v => ⟨rfl, rfl⟩) H
  refine ⟨A', h2, ?_, r, l⟩
  unfold gL_c2435
  rw [if_pos g.1, if_pos g.2.1, e1, Option.bind_some]
  dsimp only
  rw [k1, if_pos g.1, if_pos g.2.1, e2, Option.bind_some]
  dsimp only
  rw [show gX11_thrown h2 = some t from congrArg some e3, Option.bind_some, if_pos rfl]
  refine po_jn (fun k2 q2 => ?_)
  by_cases ht : t = 0
  · obtain ⟨pv, x, e5, e6⟩ := e4 ht
    rw [if_pos ht, if_pos po_ib1, e5, if_pos (show lg_cmp (mh_J (lw_pJ x v) 358 (Int32.toNatClampNeg 0)) v.toInt64 = 0 from lw_cmp x _), q2]
  · rw [if_neg ht, q2]
theorem cs_2503 (g : lw_g i h) (H : lw_R A h) : lw_K h (gL_c2503 i j) j := by
  obtain ⟨A', h1, h2, t, v, e1, k1, e2, e3, e4, r, l⟩ := lw_at (op_runp_w (op_run_w (op_wasteWithDemand (mh_I h 360 (Int32.toNatClampNeg (i + 1) + 1)) (mh_I h 360 (Int32.toNatClampNeg (i + 2) + 1)) (mh_I h 360 (Int32.toNatClampNeg (i + 3) + 1))))) (lw_wasteWithDemand (mh_I h 360 (Int32.toNatClampNeg (i + 1) + 1)) (mh_I h 360 (Int32.toNatClampNeg (i + 2) + 1)) (mh_I h 360 (Int32.toNatClampNeg (i + 3) + 1))) (fun h v => ⟨rfl, rfl⟩) H
  refine ⟨A', h2, ?_, r, l⟩
  unfold gL_c2503
  rw [if_pos g.1, if_pos g.2.1, if_pos g.2.2.1, e1, Option.bind_some]
  dsimp only
  rw [k1, if_pos g.1, if_pos g.2.1, if_pos g.2.2.1, e2, Option.bind_some]
  dsimp only
  rw [show gX11_thrown h2 = some t from congrArg some e3, Option.bind_some, if_pos rfl]
  refine po_jn (fun k2 q2 => ?_)
  by_cases ht : t = 0
  · obtain ⟨pv, x, e5, e6⟩ := e4 ht
    rw [if_pos ht, if_pos po_ib1, e5, if_pos (show lg_cmp (mh_J (lw_pJ x v) 358 (Int32.toNatClampNeg 0)) v.toInt64 = 0 from lw_cmp x _), q2]
  · rw [if_neg ht, q2]
theorem cs_2583 (g : lw_g i h) (H : lw_R A h) : lw_K h (gL_c2583 i j) j := by
  obtain ⟨A', h1, h2, t, v, e1, k1, e2, e3, e4, r, l⟩ := lw_at (op_runp_w (op_run_w (op_demandWithoutWaste (mh_I h 360 (Int32.toNatClampNeg (i + 1) + 1))))) (lw_demandWithoutWaste (mh_I h 360 (Int32.toNatClampNeg (i + 1) + 1))) (fun h v => ⟨rfl, rfl⟩) H
  refine ⟨A', h2, ?_, r, l⟩
  unfold gL_c2583
  rw [if_pos g.1, e1, Option.bind_some]
  dsimp only
  rw [k1, if_pos g.1, e2, Option.bind_some]
  dsimp only
  rw [show gX11_thrown h2 = some t from congrArg some e3, Option.bind_some, if_pos rfl]
  refine po_jn (fun k2 q2 => ?_)
  by_cases ht : t = 0
  · obtain ⟨pv, x, e5, e6⟩ := e4 ht
    rw [if_pos ht, if_pos po_ib1, e5, if_pos (show lg_cmp (mh_J (lw_pJ x v) 358 (Int32.toNatClampNeg 0)) v.toInt64 = 0 from lw_cmp x _), q2]
  · rw [if_neg ht, q2]
theorem cs_2639 (g : lw_g i h) (H : lw_R A h) : lw_K h (gL_c2639 i j) j := by
  obtain ⟨A', h1, h2, t, v, e1, k1, e2, e3, e4, r, l⟩ := lw_at (op_runp_w (op_run_w (op_receive (mh_I h 360 (Int32.toNatClampNeg (i + 1) + 1)) (mh_I h 360 (Int32.toNatClampNeg (i + 2) + 1)) (mh_I h 360 (Int32.toNatClampNeg (i + 3) + 1)) (mh_I h 360 (Int32.toNatClampNeg (i + 4) + 1))))) (lw_receive (mh_I h 360 (Int32.toNatClampNeg (i + 1) + 1)) (mh_I h 360 (Int32.toNatClampNeg (i + 2) + 1)) (mh_I h 360 (Int32.toNatClampNeg (i + 3) + 1)) (mh_I h 360 (Int32.toNatClampNeg (i + 4) + 1))) (fun h v => ⟨rfl, rfl⟩) H
  refine ⟨A', h2, ?_, r, l⟩
  unfold gL_c2639
  rw [if_pos g.1, if_pos g.2.1, if_pos g.2.2.1, if_pos g.2.2.2.1, e1, Option.bind_some]
  dsimp only
  rw [k1, if_pos g.1, if_pos g.2.1, if_pos g.2.2.1, if_pos g.2.2.2.1, e2, Option.bind_some]
  dsimp only
  rw [show gX11_thrown h2 = some t from congrArg some e3, Option.bind_some, if_pos rfl]
  refine po_jn (fun k2 q2 => ?_)
  by_cases ht : t = 0
  · obtain ⟨pv, x, e5, e6⟩ := e4 ht
    rw [if_pos ht, if_pos po_ib1, e5, if_pos (show lg_cmp (mh_J (lw_pJ x v) 358 (Int32.toNatClampNeg 0)) v.toInt64 = 0 from lw_cmp x _), q2]
  · rw [if_neg ht, q2]
theorem cs_2731 (g : lw_g i h) (H : lw_R A h) : lw_K h (gL_c2731 i j) j := by
  obtain ⟨A', h1, h2, t, v, e1, k1, e2, e3, e4, r, l⟩ := lw_at (op_runp_w (op_run_w (op_issue (mh_I h 360 (Int32.toNatClampNeg (i + 1) + 1)) (mh_I h 360 (Int32.toNatClampNeg (i + 2) + 1))))) (lw_issue (mh_I h 360 (Int32.toNatClampNeg (i + 1) + 1)) (mh_I h 360 (Int32.toNatClampNeg (i + 2) + 1))) (fun h v => ⟨rfl, rfl⟩) H
  refine ⟨A', h2, ?_, r, l⟩
  unfold gL_c2731
  rw [if_pos g.1, if_pos g.2.1, e1, Option.bind_some]
  dsimp only
  rw [k1, if_pos g.1, if_pos g.2.1, e2, Option.bind_some]
  dsimp only
  rw [show gX11_thrown h2 = some t from congrArg some e3, Option.bind_some, if_pos rfl]
  refine po_jn (fun k2 q2 => ?_)
  by_cases ht : t = 0
  · obtain ⟨pv, x, e5, e6⟩ := e4 ht
    rw [if_pos ht, if_pos po_ib1, e5, if_pos (show lg_cmp (mh_J (lw_pJ x v) 358 (Int32.toNatClampNeg 0)) v.toInt64 = 0 from lw_cmp x _), q2]
  · rw [if_neg ht, q2]
theorem cs_2799 (g : lw_g i h) (H : lw_R A h) : lw_K h (gL_c2799 i j) j := by
  obtain ⟨A', h1, h2, t, v, e1, k1, e2, e3, e4, r, l⟩ := lw_at (op_runp_w (op_run_w (op_reserve (mh_I h 360 (Int32.toNatClampNeg (i + 1) + 1)) (mh_I h 360 (Int32.toNatClampNeg (i + 2) + 1)) (mh_I h 360 (Int32.toNatClampNeg (i + 3) + 1))))) (lw_reserve (mh_I h 360 (Int32.toNatClampNeg (i + 1) + 1)) (mh_I h 360 (Int32.toNatClampNeg (i + 2) + 1)) (mh_I h 360 (Int32.toNatClampNeg (i + 3) + 1))) (fun h v => ⟨rfl, rfl⟩) H
  refine ⟨A', h2, ?_, r, l⟩
  unfold gL_c2799
  rw [if_pos g.1, if_pos g.2.1, if_pos g.2.2.1, e1, Option.bind_some]
  dsimp only
  rw [k1, if_pos g.1, if_pos g.2.1, if_pos g.2.2.1, e2, Option.bind_some]
  dsimp only
  rw [show gX11_thrown h2 = some t from congrArg some e3, Option.bind_some, if_pos rfl]
  refine po_jn (fun k2 q2 => ?_)
  by_cases ht : t = 0
  · obtain ⟨pv, x, e5, e6⟩ := e4 ht
    rw [if_pos ht, if_pos po_ib1, e5, if_pos (show lg_cmp (mh_J (lw_pJ x v) 358 (Int32.toNatClampNeg 0)) v.toInt64 = 0 from lw_cmp x _), q2]
  · rw [if_neg ht, q2]
theorem cs_2879 (g : lw_g i h) (H : lw_R A h) : lw_K h (gL_c2879 i j) j := by
  obtain ⟨A', h1, h2, t, v, e1, k1, e2, e3, e4, r, l⟩ := lw_at (op_runp_w (op_run_w (op_ship (mh_I h 360 (Int32.toNatClampNeg (i + 1) + 1))))) (lw_ship (mh_I h 360 (Int32.toNatClampNeg (i + 1) + 1))) (fun h v => ⟨rfl, rfl⟩) H
  refine ⟨A', h2, ?_, r, l⟩
  unfold gL_c2879
  rw [if_pos g.1, e1, Option.bind_some]
  dsimp only
  rw [k1, if_pos g.1, e2, Option.bind_some]
  dsimp only
  rw [show gX11_thrown h2 = some t from congrArg some e3, Option.bind_some, if_pos rfl]
  refine po_jn (fun k2 q2 => ?_)
  by_cases ht : t = 0
  · obtain ⟨pv, x, e5, e6⟩ := e4 ht
    rw [if_pos ht, if_pos po_ib1, e5, if_pos (show lg_cmp (mh_J (lw_pJ x v) 358 (Int32.toNatClampNeg 0)) v.toInt64 = 0 from lw_cmp x _), q2]
  · rw [if_neg ht, q2]
theorem cs_2935 (g : lw_g i h) (H : lw_R A h) : lw_K h (gL_c2935 i j) j := by
  obtain ⟨A', h1, h2, t, v, e1, k1, e2, e3, e4, r, l⟩ := lw_at (op_runp_w (op_run_w (op_cancel (mh_I h 360 (Int32.toNatClampNeg (i + 1) + 1))))) (lw_cancel (mh_I h 360 (Int32.toNatClampNeg (i + 1) + 1))) (fun h v => ⟨rfl, rfl⟩) H
  refine ⟨A', h2, ?_, r, l⟩
  unfold gL_c2935
  rw [if_pos g.1, e1, Option.bind_some]
  dsimp only
  rw [k1, if_pos g.1, e2, Option.bind_some]
  dsimp only
  rw [show gX11_thrown h2 = some t from congrArg some e3, Option.bind_some, if_pos rfl]
  refine po_jn (fun k2 q2 => ?_)
  by_cases ht : t = 0
  · obtain ⟨pv, x, e5, e6⟩ := e4 ht
    rw [if_pos ht, if_pos po_ib1, e5, if_pos (show lg_cmp (mh_J (lw_pJ x v) 358 (Int32.toNatClampNeg 0)) v.toInt64 = 0 from lw_cmp x _), q2]
  · rw [if_neg ht, q2]
theorem cs_2991 (g : lw_g i h) (H : lw_R A h) : lw_K h (gL_c2991 i j) j := by
  obtain ⟨A', h1, h2, t, v, e1, k1, e2, e3, e4, r, l⟩ := lw_at (op_runp_w (op_run_w (op_refill (mh_I h 360 (Int32.toNatClampNeg (i + 1) + 1))))) (lw_refill (mh_I h 360 (Int32.toNatClampNeg (i + 1) + 1))) (fun h v => ⟨rfl, rfl⟩) H
  refine ⟨A', h2, ?_, r, l⟩
  unfold gL_c2991
  rw [if_pos g.1, e1, Option.bind_some]
  dsimp only
  rw [k1, if_pos g.1, e2, Option.bind_some]
  dsimp only
  rw [show gX11_thrown h2 = some t from congrArg some e3, Option.bind_some, if_pos rfl]
  refine po_jn (fun k2 q2 => ?_)
  by_cases ht : t = 0
  · obtain ⟨pv, x, e5, e6⟩ := e4 ht
    rw [if_pos ht, if_pos po_ib1, e5, if_pos (show lg_cmp (mh_J (lw_pJ x v) 358 (Int32.toNatClampNeg 0)) v.toInt64 = 0 from lw_cmp x _), q2]
  · rw [if_neg ht, q2]
theorem cs_3047 (g : lw_g i h) (H : lw_R A h) : lw_K h (gL_c3047 i j) j := by
  obtain ⟨A', h1, h2, t, v, e1, k1, e2, e3, e4, r, l⟩ := lw_at (op_runp_w (op_run_w (op_takeStock (mh_I h 360 (Int32.toNatClampNeg (i + 1) + 1)) (mh_I h 360 (Int32.toNatClampNeg (i + 2) + 1))))) (lw_takeStock (mh_I h 360 (Int32.toNatClampNeg (i + 1) + 1)) (mh_I h 360 (Int32.toNatClampNeg (i + 2) + 1))) (fun h v => ⟨rfl, rfl⟩) H
  refine ⟨A', h2, ?_, r, l⟩
  unfold gL_c3047
  rw [if_pos g.1, if_pos g.2.1, e1, Option.bind_some]
  dsimp only
  rw [k1, if_pos g.1, if_pos g.2.1, e2, Option.bind_some]
  dsimp only
  rw [show gX11_thrown h2 = some t from congrArg some e3, Option.bind_some, if_pos rfl]
  refine po_jn (fun k2 q2 => ?_)
  by_cases ht : t = 0
  · obtain ⟨pv, x, e5, e6⟩ := e4 ht
    rw [if_pos ht, if_pos po_ib1, e5, if_pos (show lg_cmp (mh_J (lw_pJ x v) 358 (Int32.toNatClampNeg 0)) v.toInt64 = 0 from lw_cmp x _), q2]
  · rw [if_neg ht, q2]
theorem cs_3115 (g : lw_g i h) (H : lw_R A h) : lw_K h (gL_c3115 i j) j := by
  obtain ⟨ok, Hc, Hm⟩ := H
  obtain ⟨v, A', ok', hG, hM⟩ := op_writeOff A ok
  obtain ⟨h1, e1, r1, f1⟩ := hG h Hc
  have Hm1 : ra_m A h1 := ra_m_fw Hm ok (fun q hq k => f1.1 q (po_fcf hq) k)
  obtain ⟨h2, e2, e3, r2, f2⟩ := hM h1 Hm1
  have k3 : h2.1 = h.1 := f2.2.1.trans f1.2.1
  refine ⟨A', h2, ?_, ⟨ok', ra_c_fr r1 f2 (fun q hq => po_fmf (Or.inl (by omega))), r2⟩, ?_, ?_, ?_, funext (fun k => (f2.1 360 (po_fmf (by decide)) k).trans (f1.1 360 (po_fcf (by decide)) k))⟩
  · unfold gL_c3115
    rw [e1, Option.bind_some]
    dsimp only
    rw [e2, Option.bind_some, if_pos rfl]
  · show h2.1.1 = h.1.1
    rw [k3]
  · show h2.1.2.1 ≤ h.1.2.1 + 1
    rw [k3]
    exact Nat.le_succ _
  · show h2.1.2.2 ≤ h.1.2.2 + 6
    rw [k3]
    exact Nat.le_add_right _ _
theorem cs_3128 (g : lw_g i h) (H : lw_R A h) : lw_K h (gL_c3128 i j) j := by
  obtain ⟨A', h1, h2, t, v, e1, k1, e2, e3, e4, r, l⟩ := lw_at (op_runp_w (op_run_w (op_passDays (mh_I h 360 (Int32.toNatClampNeg (i + 1) + 1))))) (lw_passDays (mh_I h 360 (Int32.toNatClampNeg (i + 1) + 1))) (fun h v => ⟨rfl, rfl⟩) H
  refine ⟨A', h2, ?_, r, l⟩
  unfold gL_c3128
  rw [if_pos g.1, e1, Option.bind_some]
  dsimp only
  rw [k1, if_pos g.1, e2, Option.bind_some]
  dsimp only
  rw [show gX11_thrown h2 = some t from congrArg some e3, Option.bind_some, if_pos rfl]
  refine po_jn (fun k2 q2 => ?_)
  by_cases ht : t = 0
  · obtain ⟨pv, x, e5, e6⟩ := e4 ht
    rw [if_pos ht, if_pos po_ib1, e5, if_pos (show lg_cmp (mh_J (lw_pJ x v) 358 (Int32.toNatClampNeg 0)) v.toInt64 = 0 from lw_cmp x _), q2]
  · rw [if_neg ht, q2]
theorem cs_3184 (g : lw_g i h) (H : lw_R A h) : lw_K h (gL_c3184 i j) j := by
  obtain ⟨A', h1, h2, t, v, e1, k1, e2, e3, e4, r, l⟩ := lw_at (op_runp_w (op_runScript)) (lw_runScript) (fun h v => ⟨rfl, rfl⟩) H
  refine ⟨A', h2, ?_, r, l⟩
  unfold gL_c3184
  rw [e1, Option.bind_some]
  dsimp only
  rw [e2, Option.bind_some]
  dsimp only
  rw [show gX11_thrown h2 = some t from congrArg some e3, Option.bind_some, if_pos rfl]
  refine po_jn (fun k2 q2 => ?_)
  by_cases ht : t = 0
  · obtain ⟨pv, x, e5, e6⟩ := e4 ht
    rw [if_pos ht, if_pos po_ib1, e5, if_pos (show lg_cmp (mh_J (lw_pJ x v) 358 (Int32.toNatClampNeg 0)) v.toInt64 = 0 from lw_cmp x _), q2]
  · rw [if_neg ht, q2]
theorem cs_3228 (g : lw_g i h) (H : lw_R A h) : lw_K h (gL_c3228 i j) j := by
  obtain ⟨A', h1, h2, t, v, e1, k1, e2, e3, e4, r, l⟩ := lw_at (op_runp_w (op_run_w (op_undo))) (lw_undo) (fun h v => ⟨rfl, rfl⟩) H
  refine ⟨A', h2, ?_, r, l⟩
  unfold gL_c3228
  rw [e1, Option.bind_some]
  dsimp only
  rw [e2, Option.bind_some]
  dsimp only
  rw [show gX11_thrown h2 = some t from congrArg some e3, Option.bind_some, if_pos rfl]
  refine po_jn (fun k2 q2 => ?_)
  by_cases ht : t = 0
  · obtain ⟨pv, x, e5, e6⟩ := e4 ht
    rw [if_pos ht, if_pos po_ib1, e5, if_pos (show lg_cmp (mh_J (lw_pJ x v) 358 (Int32.toNatClampNeg 0)) v.toInt64 = 0 from lw_cmp x _), q2]
  · rw [if_neg ht, q2]
theorem cs_3272 (g : lw_g i h) (H : lw_R A h) : lw_K h (gL_c3272 i j) j := by
  obtain ⟨A', h1, h2, t, v, e1, k1, e2, e3, e4, r, l⟩ := lw_at (op_runp_w (op_run_w (op_save (mh_I h 360 (Int32.toNatClampNeg (i + 1) + 1))))) (lw_save (mh_I h 360 (Int32.toNatClampNeg (i + 1) + 1))) (fun h v => ⟨rfl, rfl⟩) H
  refine ⟨A', h2, ?_, r, l⟩
  unfold gL_c3272
  rw [if_pos g.1, e1, Option.bind_some]
  dsimp only
  rw [k1, if_pos g.1, e2, Option.bind_some]
  dsimp only
  rw [show gX11_thrown h2 = some t from congrArg some e3, Option.bind_some, if_pos rfl]
  refine po_jn (fun k2 q2 => ?_)
  by_cases ht : t = 0
  · obtain ⟨pv, x, e5, e6⟩ := e4 ht
    rw [if_pos ht, if_pos po_ib1, e5, if_pos (show lg_cmp (mh_J (lw_pJ x v) 358 (Int32.toNatClampNeg 0)) v.toInt64 = 0 from lw_cmp x _), q2]
  · rw [if_neg ht, q2]
theorem cs_3328 (g : lw_g i h) (H : lw_R A h) : lw_K h (gL_c3328 i j) j := by
  obtain ⟨A', h1, h2, t, v, e1, k1, e2, e3, e4, r, l⟩ := lw_at (op_runp_w (op_run_w (op_restore (mh_I h 360 (Int32.toNatClampNeg (i + 1) + 1))))) (lw_restore (mh_I h 360 (Int32.toNatClampNeg (i + 1) + 1))) (fun h v => ⟨rfl, rfl⟩) H
  refine ⟨A', h2, ?_, r, l⟩
  unfold gL_c3328
  rw [if_pos g.1, e1, Option.bind_some]
  dsimp only
  rw [k1, if_pos g.1, e2, Option.bind_some]
  dsimp only
  rw [show gX11_thrown h2 = some t from congrArg some e3, Option.bind_some, if_pos rfl]
  refine po_jn (fun k2 q2 => ?_)
  by_cases ht : t = 0
  · obtain ⟨pv, x, e5, e6⟩ := e4 ht
    rw [if_pos ht, if_pos po_ib1, e5, if_pos (show lg_cmp (mh_J (lw_pJ x v) 358 (Int32.toNatClampNeg 0)) v.toInt64 = 0 from lw_cmp x _), q2]
  · rw [if_neg ht, q2]
theorem cs_3384 (g : lw_g i h) (H : lw_R A h) : lw_K h (gL_c3384 i j) j := by
  obtain ⟨A', h1, h2, t, v, e1, k1, e2, e3, e4, r, l⟩ := lw_at (op_runp_w (op_run_w (op_writeBatches (mh_I h 360 (Int32.toNatClampNeg (i + 1) + 1))))) (lw_writeBatches (mh_I h 360 (Int32.toNatClampNeg (i + 1) + 1))) (fun h v => ⟨rfl, rfl⟩) H
  refine ⟨A', h2, ?_, r, l⟩
  unfold gL_c3384
  rw [if_pos g.1, e1, Option.bind_some]
  dsimp only
  rw [k1, if_pos g.1, e2, Option.bind_some]
  dsimp only
  rw [show gX11_thrown h2 = some t from congrArg some e3, Option.bind_some, if_pos rfl]
  refine po_jn (fun k2 q2 => ?_)
  by_cases ht : t = 0
  · obtain ⟨pv, x, e5, e6⟩ := e4 ht
    rw [if_pos ht, if_pos po_ib1, e5, if_pos (show lg_cmp (mh_J (lw_pJ x v) 358 (Int32.toNatClampNeg 0)) v.toInt64 = 0 from lw_cmp x _), q2]
  · rw [if_neg ht, q2]
theorem cs_3440 (g : lw_g i h) (H : lw_R A h) : lw_K h (gL_c3440 i j) j := by
  obtain ⟨A', h1, h2, t, v, e1, k1, e2, e3, e4, r, l⟩ := lw_at (op_runp_w (op_run_w (op_outputByte (mh_I h 360 (Int32.toNatClampNeg (i + 1) + 1))))) (lw_outputByte (mh_I h 360 (Int32.toNatClampNeg (i + 1) + 1))) (fun h v => ⟨rfl, rfl⟩) H
  refine ⟨A', h2, ?_, r, l⟩
  unfold gL_c3440
  rw [if_pos g.1, e1, Option.bind_some]
  dsimp only
  rw [k1, if_pos g.1, e2, Option.bind_some]
  dsimp only
  rw [show gX11_thrown h2 = some t from congrArg some e3, Option.bind_some, if_pos rfl]
  refine po_jn (fun k2 q2 => ?_)
  by_cases ht : t = 0
  · obtain ⟨pv, x, e5, e6⟩ := e4 ht
    rw [if_pos ht, if_pos po_ib1, e5, if_pos (show lg_cmp (mh_J (lw_pJ x v) 358 (Int32.toNatClampNeg 0)) v.toInt64 = 0 from lw_cmp x _), q2]
  · rw [if_neg ht, q2]
end PRH

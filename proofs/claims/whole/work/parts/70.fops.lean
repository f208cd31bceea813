section PQP
theorem op_daysUntilShortage (x y : Int32) : op_run (lc_2 po_IO po_IA) (gX10_daysUntilShortage x y) (gX11_daysUntilShortage x y) := by
  intro A ok
  have h8 := ok.1.1.1
  rcases po_cs x (n := sp_np (sa_C A)) (by omega) with ⟨p, hp, rfl⟩ | hx
  · rcases po_cr y (a := 1) (b := 999) (by decide) (by decide) with ⟨d, hd0, hd, rfl⟩ | hy
    · refine op_q2 ok (v := nI (min 365 (sp_tot (sa_S A) p d / d))) (fun h H => ?_) (fun h H => op_days_m H ok hp hd0 hd)
      obtain ⟨h1, e1, e2⟩ := pc_days H ok hp hd0 hd
      unfold gX10_daysUntilShortage
      rw [pc_ckP H ok hp, Option.bind_some]
      dsimp only
      rw [pc_ckI (y := 1) (z := 999) hd0 hd (by decide) rfl rfl rfl, Option.bind_some]
      dsimp only
      rw [e1, Option.bind_some]
      exact ⟨h1, rfl, e2⟩
    · refine op_no ok (t := 2) (v := 0) lc_2b (by decide) (fun h H => ?_) (fun h H => ?_)
      · unfold gX10_daysUntilShortage
        rw [pc_ckP H ok hp, Option.bind_some]
        dsimp only
        rw [pc_ckIn (y := 1) (z := 999) hy rfl rfl]
        rfl
      · unfold gX11_daysUntilShortage
        rw [pm_isP H ok hp, Option.bind_some]
        refine po_jn (fun k1 j1 => ?_)
        rw [if_pos rfl, j1]
        dsimp only
        rw [po_in_no' (y := 1) (z := 999) hy rfl rfl, Option.bind_some]
        refine po_jn (fun k2 j2 => ?_)
        rw [if_neg (by decide), j2]
        dsimp only
        rw [po_fails_2, Option.bind_some, if_pos rfl]
  · refine op_no ok (t := 1) (v := 0) lc_2a (by decide) (fun h H => ?_) (fun h H => ?_)
    · unfold gX10_daysUntilShortage
      rw [pc_ckPn H hx]
      rfl
    · unfold gX11_daysUntilShortage
      rw [pm_isPn H ok hx, Option.bind_some]
      refine po_jn (fun k1 j1 => ?_)
      rw [if_neg (by decide), j1]
      dsimp only
      rcases po_cr y (a := 1) (b := 999) (by decide) (by decide) with ⟨d, hd0, hd, rfl⟩ | hy
      · rw [po_in_in (y := 1) (z := 999) hd0 hd (by decide) rfl rfl rfl, Option.bind_some]
        refine po_jn (fun k2 j2 => ?_)
        rw [if_pos rfl, j2]
        dsimp only
        rw [po_fails_1, Option.bind_some, if_pos rfl]
      · rw [po_in_no' (y := 1) (z := 999) hy rfl rfl, Option.bind_some]
        refine po_jn (fun k2 j2 => ?_)
        rw [if_neg (by decide), j2]
        dsimp only
        rw [po_fails_1, Option.bind_some, if_pos rfl]
theorem op_wasteWithDemand (x y z : Int32) : op_run (lc_2 po_IO po_IA) (gX10_wasteWithDemand x y z) (gX11_wasteWithDemand x y z) := by
  intro A ok
  have h8 := ok.1.1.1
  rcases po_cs x (n := sp_np (sa_C A)) (by omega) with ⟨p, hp, rfl⟩ | hx
  · rcases po_cr y (a := 0) (b := 999) (by decide) (by decide) with ⟨d, hd0, hd, rfl⟩ | hy
    · rcases po_cr z (a := 0) (b := 365) (by decide) (by decide) with ⟨n, hn0, hn, rfl⟩ | hz
      · refine op_q2 ok (v := nI (sp_was (sa_S A) p d n)) (fun h H => ?_) (fun h H => op_waste_m H ok hp hd hn)
        obtain ⟨h1, e1, e2⟩ := pc_waste H ok hp hd hn
        unfold gX10_wasteWithDemand
        rw [pc_ckP H ok hp, Option.bind_some]
        dsimp only
        rw [pc_ckI (y := 0) (z := 999) hd0 hd (by decide) rfl rfl rfl, Option.bind_some]
        dsimp only
        rw [pc_ckI (y := 0) (z := 365) hn0 hn (by decide) rfl rfl rfl, Option.bind_some]
        dsimp only
        rw [e1, Option.bind_some]
        exact ⟨h1, rfl, e2⟩
      · refine op_no ok (t := 2) (v := 0) lc_2b (by decide) (fun h H => ?_) (fun h H => ?_)
        · unfold gX10_wasteWithDemand
          rw [pc_ckP H ok hp, Option.bind_some]
          dsimp only
          rw [pc_ckI (y := 0) (z := 999) hd0 hd (by decide) rfl rfl rfl, Option.bind_some]
          dsimp only
          rw [pc_ckIn (y := 0) (z := 365) hz rfl rfl]
          rfl
        · unfold gX11_wasteWithDemand
          rw [pm_isP H ok hp, Option.bind_some]
          refine po_jn (fun k1 j1 => ?_)
          rw [if_pos rfl, j1]
          dsimp only
          rw [po_in_in (y := 0) (z := 999) hd0 hd (by decide) rfl rfl rfl, Option.bind_some]
          refine po_jn (fun k2 j2 => ?_)
          refine po_jn (fun k3 j3 => ?_)
          rw [if_pos rfl, po_in_no' (y := 0) (z := 365) hz rfl rfl, Option.bind_some, if_neg (by decide), j3]
          dsimp only
          rw [j2]
          dsimp only
          rw [po_fails_2, Option.bind_some, if_pos rfl]
    · refine op_no ok (t := 2) (v := 0) lc_2b (by decide) (fun h H => ?_) (fun h H => ?_)
      · unfold gX10_wasteWithDemand
        rw [pc_ckP H ok hp, Option.bind_some]
        dsimp only
        rw [pc_ckIn (y := 0) (z := 999) hy rfl rfl]
        rfl
      · unfold gX11_wasteWithDemand
        rw [pm_isP H ok hp, Option.bind_some]
        refine po_jn (fun k1 j1 => ?_)
        rw [if_pos rfl, j1]
        dsimp only
        rw [po_in_no' (y := 0) (z := 999) hy rfl rfl, Option.bind_some]
        refine po_jn (fun k2 j2 => ?_)
        refine po_jn (fun k3 j3 => ?_)
        rw [if_neg (by decide), j3]
        dsimp only
        rw [j2]
        dsimp only
        rw [po_fails_2, Option.bind_some, if_pos rfl]
  · refine op_no ok (t := 1) (v := 0) lc_2a (by decide) (fun h H => ?_) (fun h H => ?_)
    · unfold gX10_wasteWithDemand
      rw [pc_ckPn H hx]
      rfl
    · unfold gX11_wasteWithDemand
      rw [pm_isPn H ok hx, Option.bind_some]
      refine po_jn (fun k1 j1 => ?_)
      rw [if_neg (by decide), j1]
      dsimp only
      rcases po_cr y (a := 0) (b := 999) (by decide) (by decide) with ⟨d, hd0, hd, rfl⟩ | hy
      · rw [po_in_in (y := 0) (z := 999) hd0 hd (by decide) rfl rfl rfl, Option.bind_some]
        refine po_jn (fun k2 j2 => ?_)
        refine po_jn (fun k3 j3 => ?_)
        rw [if_pos rfl]
        rcases po_cr z (a := 0) (b := 365) (by decide) (by decide) with ⟨n, hn0, hn, rfl⟩ | hz
        · rw [po_in_in (y := 0) (z := 365) hn0 hn (by decide) rfl rfl rfl, Option.bind_some, if_pos rfl, j2]
          dsimp only
          rw [po_fails_1, Option.bind_some, if_pos rfl]
        · rw [po_in_no' (y := 0) (z := 365) hz rfl rfl, Option.bind_some, if_neg (by decide), j3]
          dsimp only
          rw [j2]
          dsimp only
          rw [po_fails_1, Option.bind_some, if_pos rfl]
      · rw [po_in_no' (y := 0) (z := 999) hy rfl rfl, Option.bind_some]
        refine po_jn (fun k2 j2 => ?_)
        refine po_jn (fun k3 j3 => ?_)
        rw [if_neg (by decide), j3]
        dsimp only
        rw [j2]
        dsimp only
        rw [po_fails_1, Option.bind_some, if_pos rfl]
theorem op_demandWithoutWaste (x : Int32) : op_run (lc_1 po_IO) (gX10_demandWithoutWaste x) (gX11_demandWithoutWaste x) := by
  intro A ok
  have h8 := ok.1.1.1
  rcases po_cs x (n := sp_np (sa_C A)) (by omega) with ⟨p, hp, rfl⟩ | hx
  · refine op_q2 ok (v := sp_lv (sp_least (sa_S A) p)) (fun h H => ?_) (fun h H => op_least_m H ok hp (fun m _ => sp_least_iff ok.1.2 p m))
    obtain ⟨h1, e1, e2⟩ := pc_least H ok hp
    unfold gX10_demandWithoutWaste
    rw [pc_ckP H ok hp, Option.bind_some]
    dsimp only
    rw [e1, Option.bind_some]
    exact ⟨h1, rfl, e2⟩
  · refine op_no ok (t := 1) (v := 0) lc_1a (by decide) (fun h H => ?_) (fun h H => ?_)
    · unfold gX10_demandWithoutWaste
      rw [pc_ckPn H hx]
      rfl
    · unfold gX11_demandWithoutWaste
      rw [pm_isPn H ok hx, Option.bind_some]
      refine po_jn (fun k1 j1 => ?_)
      rw [if_neg (by decide), j1]
      dsimp only
      rw [po_fails_1, Option.bind_some, if_pos rfl]
end PQP

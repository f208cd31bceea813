section PQK
variable {T : sp_T} {S : sp_S} {h : mm_H} {A : sp_A}
theorem pm_write_L {p : Nat} (ok : sp_ok S) (hp : p < 2 ^ 31) : ∀ (t : List Nat) (n i : Nat) (T : sp_T) (h : mm_H), sm_T T 8 356 h → sm_S S 0 h → (sp_ins0 S p).drop i = t → i + t.length ≤ 20 → t.length < n → T.1 + 1 ≤ 10 * i + (if i = 0 then 1 else 0) →
    ∃ h', gX11_writeBatches_L37 (nI p) n (sp_hd t) h = some (nI (sp_wb S t T).1, h') ∧ sm_T (sp_wb S t T) 8 356 h' ∧ pm_wfr h h' := by
  intro t
  induction t with
  | nil =>
    intro n i T h H HS hd h20 hn hl
    obtain ⟨n, rfl⟩ : ∃ k, n = k + 1 := ⟨n - 1, by omega⟩
    rw [gX11_writeBatches_L37, if_pos (show sp_hd [] = -1 from rfl), H.1]
    exact ⟨h, rfl, H, pm_wfr_refl h⟩
  | cons b t ih =>
    intro n i T h H HS hd h20 hn hl
    obtain ⟨n, rfl⟩ : ∃ k, n = k + 1 := ⟨n - 1, by omega⟩
    rw [List.length_cons] at h20 hn
    have hbl : b ∈ sp_ins0 S p := List.mem_of_mem_drop (by rw [hd]; exact List.mem_cons_self)
    have hb := (sp_ordk_mem.mp hbl).1
    have hb20 := pc_b20 ok hb
    have hd2 : (sp_ins0 S p).drop (i + 1) = t := (sp_drop hd).2.2
    have hT : T.1 + 10 ≤ 199 := by
      by_cases h0 : i = 0
      · rw [if_pos h0] at hl
        omega
      · rw [if_neg h0] at hl
        omega
    rw [gX11_writeBatches_L37, if_neg (show ¬ sp_hd (b :: t) = -1 from po_nm1 (by omega)), show sp_hd (b :: t) = nI b from rfl]
    have rest : ∀ (T' : sp_T) (h' : mm_H), T' = sp_spc T → sm_T T' 8 356 h' → pm_wfr h h' → ∃ h2, (gX11_ofBatch (nI b) 1 h').bind (fun (x18 : Int32) =>
        (gX11_putNumber x18 h').bind (fun (h20 : mm_H) =>
        (gX11_put 64 h20).bind (fun (h22 : mm_H) =>
        (gX11_ofBatch (nI b) 2 h22).bind (fun (x24 : Int32) =>
        (gX11_putNumber x24 h22).bind (fun (h26 : mm_H) =>
        (gX11_isPast (nI b) h26).bind (fun (x28 : Bool) =>
        mm_jn (fun (h30 : mm_H) =>
        (gX11_ofBatch (nI b) 2 h30).bind (fun (x32 : Int32) =>
        (gX11_batchBehind (nI p) x32 (nI b) h30).bind (fun (x34 : Int32) =>
        gX11_writeBatches_L37 (nI p) n x34 h30))) (fun (j31 : mm_H → Option (Int32 × mm_H)) =>
        if x28 = true then
        (gX11_put 33 h26).bind (fun (h37 : mm_H) =>
        j31 h37)
        else
        j31 h26))))))) = some (nI (sp_wb S (b :: t) T).1, h2) ∧ sm_T (sp_wb S (b :: t) T) 8 356 h2 ∧ pm_wfr h h2 := by
      intro T' h' hT' H' f'
      have hsl := sp_spc_len T
      rw [← hT'] at hsl
      have hT9 : T'.1 + 9 ≤ 199 := by
        by_cases h0 : 0 < T.1
        · rw [if_pos h0] at hsl
          omega
        · rw [if_neg h0] at hsl
          omega
      have HS' : sm_S S 0 h' := sm_fr ok HS f'.1 (by decide)
      have hlen := sp_wb1_len (S := S) (T := T') (ok.2.1 b hb).2.1
      have key : ∀ x1, sm_T (sp_wb1 S T' b) 8 356 x1 → pm_wfr h' x1 → ∃ x2, (gX11_ofBatch (nI b) 2 x1).bind (fun (x32 : Int32) => (gX11_batchBehind (nI p) x32 (nI b) x1).bind (fun (x34 : Int32) => gX11_writeBatches_L37 (nI p) n x34 x1)) = some (nI (sp_wb S (b :: t) T).1, x2) ∧ sm_T (sp_wb S (b :: t) T) 8 356 x2 ∧ pm_wfr h x2 := by
        intro x1 H1 f1
        have HS1 : sm_S S 0 x1 := sm_fr ok HS' f1.1 (by decide)
        obtain ⟨x2, e2, H2, f2⟩ := ih n (i + 1) (sp_wb1 S T' b) x1 H1 HS1 hd2 (by omega) (by omega) (by
          rw [if_neg (show ¬ i + 1 = 0 by omega)]
          by_cases h0 : 0 < T.1
          · rw [if_pos h0] at hsl
            by_cases hi : i = 0
            · rw [if_pos hi] at hl
              omega
            · rw [if_neg hi] at hl
              omega
          · rw [if_neg h0] at hsl
            omega)
        rw [pm_b HS1 ok (x := 2) (w := 2) rfl hb (by decide), Option.bind_some, pm_behind1 HS1 ok hp hd, Option.bind_some, e2]
        rw [hT'] at H2 ⊢
        exact ⟨x2, rfl, H2, pm_wfr_trans f' (pm_wfr_trans f1 f2)⟩
      obtain ⟨x1, e1, H1, f1⟩ := pm_write2 H' HS' ok hb (by omega)
      refine (key x1 H1 f1).imp (fun x2 hh => ⟨?_, hh.2⟩)
      rw [e1]
      exact hh.1
    by_cases h0 : 0 < T.1
    · obtain ⟨x0, e0, H0, f0⟩ := pm_put (x := 32) (b := 32) H (by omega) rfl
      refine (rest _ x0 (by unfold sp_spc; rw [if_pos h0]) H0 f0).imp (fun h2 hh => ⟨?_, hh.2⟩)
      refine po_jn (fun k1 g1 => ?_)
      rw [H.1, if_pos (po_0lt h0 (by omega)), e0, Option.bind_some, g1]
      exact hh.1
    · refine (rest T h (by unfold sp_spc; rw [if_neg h0]) H (pm_wfr_refl h)).imp (fun h2 hh => ⟨?_, hh.2⟩)
      refine po_jn (fun k1 g1 => ?_)
      rw [H.1, if_neg (po_n0lt h0), g1]
      exact hh.1
/-- the output text is another -/
def sa_out (A : sp_A) (T : sp_T) : sp_A := (A.1, A.2.1, (sa_T A, T), A.2.2.2)
theorem op_writeBatches (x : Int32) : op_run (lc_1 po_IO) (gX10_writeBatches x) (gX11_writeBatches x) := by
  intro A ok
  have h8 := ok.1.1.1
  rcases po_cs x (n := sp_np (sa_C A)) (by omega) with ⟨p, hp, rfl⟩ | hx
  · have hl20 : (sp_ins0 (sa_S A) p).length ≤ 20 := Nat.le_trans sp_ordk_len ok.1.2.1.2.1
    have hm : ∀ x, x ∈ sp_ins0 (sa_S A) p → x < sp_nb (sa_S A) := fun x hx => (sp_ordk_mem.mp hx).1
    have hlen := sp_wb_len (S := sa_S A) (l := sp_ins0 (sa_S A) p) (T := (0, (sa_W A).2)) (i := 0) (fun b hb => (ok.1.2.2.1 b (hm b hb)).2.1) (show 0 + 1 ≤ 10 * 0 + (if 0 = 0 then 1 else 0) by decide)
    have hlen2 : (sp_wb (sa_S A) (sp_ins0 (sa_S A) p) (0, (sa_W A).2)).1 ≤ 199 := by
      by_cases h0 : 0 + (sp_ins0 (sa_S A) p).length = 0
      · rw [if_pos h0] at hlen
        omega
      · rw [if_neg h0] at hlen
        omega
    have okA : sa_ok (sa_out A (sp_wb (sa_S A) (sp_ins0 (sa_S A) p) (0, (sa_W A).2))) := by
      obtain ⟨o1, o2, o3, o4, o5, o6⟩ := ok
      exact ⟨o1, o2, o3, o4, ⟨hlen2, sp_wb_b o5.2⟩, o6⟩
    refine ⟨_, okA, Or.inl ⟨nI (sp_wb (sa_S A) (sp_ins0 (sa_S A) p) (0, (sa_W A).2)).1, fun h H => ?_, fun h H => ?_⟩⟩
    · have hW := H.2.2.1.2
      have hWl := ok.2.2.2.2.1.1
      obtain ⟨x1, e1, H1, f1⟩ := pc_cut (n := 0) hW (Nat.zero_le _) (by omega)
      have hn : ∀ z, z < 3 ∨ 5 ≤ z → po_tx 3 z = false := fun z hz => po_tx_no hz
      have f1' := po_tx_o f1
      have HS1 : sc_S (sa_S A) 21 x1 := sc_fr H.1.2 f1' (fun q hq => hn q (by
        have hq' : 21 ≤ q ∧ q < 21 + 31 := of_decide_eq_true hq
        omega))
      obtain ⟨x2, e2, H2, f2⟩ := pc_inStock po_k21 HS1 ok.1.2 (p := p) (by omega)
      have HS2 : sc_S (sa_S A) 21 x2 := sc_fr HS1 f2 (po_od_in (by decide))
      have HT2 : sc_T (0, (sa_W A).2) 3 x2 := sc_T_fr H1 f2 (by decide) (by decide)
      obtain ⟨x3, e3, H3, f3⟩ := pc_write_L ok.1.2 hm (sp_ins0 (sa_S A) p) mm_F 0 (0, (sa_W A).2) x2 HT2 H2 HS2 rfl (Nat.zero_le _) (by omega) (Nat.lt_of_le_of_lt hl20 (by decide)) ⟨fun z => absurd z (Nat.lt_irrefl 0), fun z => absurd z (Nat.lt_irrefl 0)⟩ (show 0 + 1 ≤ 10 * 0 + (if 0 = 0 then 1 else 0) by decide)
      unfold gX10_writeBatches
      rw [pc_ckP H ok hp, Option.bind_some]
      dsimp only
      rw [show gX8_cutTo 3 0 h = some x1 from e1, Option.bind_some, e2, Option.bind_some, show gX10_writeBatches_L27 mm_F 0 x2 = _ from e3]
      have hf : po_fr (fun z => po_tx 3 z || po_od z) h x3 := po_fr_trans (po_fr_mono f1' (fun z hz => (Bool.or_eq_false_iff.mp hz).1)) (po_fr_trans (po_fr_mono f2 (fun z hz => (Bool.or_eq_false_iff.mp hz).2)) (po_fr_mono f3 (fun z hz => (Bool.or_eq_false_iff.mp hz).1)))
      have hn2 : ∀ z, (z < 3 ∨ 5 ≤ z) → (z < 347 ∨ 352 ≤ z) → (po_tx 3 z || po_od z) = false := fun z h1 h2 => by rw [hn z h1, po_od_no h2]; rfl
      obtain ⟨⟨a1, a2⟩, ⟨a3, a4⟩, ⟨a5, a6⟩, a7, a8⟩ := H
      refine ⟨x3, rfl, ⟨⟨sc_C_fr a1 hf (hn2 _ (by decide) (by decide)) (hn2 _ (by decide) (by decide)) (hn2 _ (by decide) (by decide)) (hn2 _ (by decide) (by decide)), sc_fr a2 hf (fun q hq => ?_)⟩, ⟨sc_U_fr a3 hf (fun q h1 h2 => hn2 q (by omega) (by omega)), sc_V_fr a4 hf (fun q h1 h2 => hn2 q (by omega) (by omega))⟩, ⟨sc_T_fr a5 hf (hn2 _ (by decide) (by decide)) (hn2 _ (by decide) (by decide)), H3⟩, (hf.1 5 (hn2 _ (by decide) (by decide)) 1).trans a7, (hf.1 5 (hn2 _ (by decide) (by decide)) 2).trans a8⟩, po_fr_mono hf (fun z hz => by
        have := po_fc_no hz
        exact hn2 z (by omega) (by omega))⟩
      have hq' : 21 ≤ q ∧ q < 21 + 31 := of_decide_eq_true hq
      exact hn2 q (by omega) (by omega)
    · have H9 := ra_m_9 (v := 0) H ok
      have hW := H9.2.2.1.2
      have HT1 : sm_T (0, (sa_W A).2) 8 356 (ms_I (ms_I h 352 9 0) 352 8 0) := ⟨po_I1, fun j hj => absurd hj (Nat.not_lt_zero _)⟩
      have f1 : pm_wfr (ms_I h 352 9 0) (ms_I (ms_I h 352 9 0) 352 8 0) := ⟨po_fr_I (by decide), fun k hk => po_I4 hk⟩
      have HS1 : sm_S (sa_S A) 0 (ms_I (ms_I h 352 9 0) 352 8 0) := sm_fr ok.1.2 H9.1.2 f1.1 (by decide)
      obtain ⟨x3, e3, H3, f3⟩ := pm_write_L ok.1.2 (p := p) (by omega) (sp_ins0 (sa_S A) p) mm_F 0 (0, (sa_W A).2) _ HT1 HS1 rfl (by omega) (Nat.lt_of_le_of_lt hl20 (by decide)) (show 0 + 1 ≤ 10 * 0 + (if 0 = 0 then 1 else 0) by decide)
      have hf := pm_wfr_trans f1 f3
      refine ⟨x3, ?_, ?_, ?_, po_fr_trans po_fm9 (po_fr_mono hf.1 (fun z hz => ?_))⟩
      · unfold gX11_writeBatches
        rw [pm_isP H ok hp, Option.bind_some]
        refine po_jn (fun k1 g1 => ?_)
        rw [if_pos rfl, g1]
        dsimp only
        rw [po_fails_0, Option.bind_some, if_neg Bool.false_ne_true, Option.bind_some, pm_behind0 HS1 ok.1.2 (by omega), Option.bind_some, e3]
      · rw [hf.2 9 (by decide), po_I1]
      · obtain ⟨⟨a1, a2⟩, ⟨a3, a4⟩, ⟨a5, a6⟩, a7, a8⟩ := H9
        obtain ⟨⟨o1, o2⟩, ⟨o3, o4⟩, o5, o6, o7⟩ := ok
        have h3 : ∀ k, mh_I x3 353 k = mh_I (ms_I h 352 9 0) 353 k := hf.1.1 353 (by decide)
        refine ⟨⟨sm_C_blk o1 a1 (fun j _ => h3 _), sm_blk o2 a2 (fun j _ => h3 _)⟩, ⟨⟨(hf.2 2 (by decide)).trans a3.1, fun i S hi => ?_⟩, fun k hk => ⟨by rw [hf.1.1 354 (by decide)]; exact (a4 k hk).1, fun S hS => ?_⟩⟩, ⟨⟨(hf.2 4 (by decide)).trans a5.1, fun j hj => (hf.1.1 355 (by decide) j).trans (a5.2 j hj)⟩, H3⟩, (hf.2 5 (by decide)).trans a7, (hf.2 6 (by decide)).trans a8⟩
        · obtain ⟨u1, u2⟩ := a3.2 i S hi
          exact ⟨sm_blk (o4 S (List.mem_of_getElem? hi)) u1 (fun j _ => h3 _), sm_C_blk o1 u2 (fun j _ => h3 _)⟩
        · obtain ⟨u1, u2⟩ := (a4 k hk).2 S hS
          exact ⟨sm_blk (o5 k S hS) u1 (fun j _ => h3 _), sm_C_blk o1 u2 (fun j _ => h3 _)⟩
      · have hz' : ¬ (352 ≤ z ∧ z < 358) := of_decide_eq_false hz
        unfold po_wf
        simp
        omega
  · refine op_no ok (t := 1) (v := 0) lc_1a (by decide) (fun h H => ?_) (fun h H => ?_)
    · unfold gX10_writeBatches
      rw [pc_ckPn H hx]
      rfl
    · unfold gX11_writeBatches
      rw [pm_isPn H ok hx, Option.bind_some]
      refine po_jn (fun k1 g1 => ?_)
      rw [if_neg (by decide), g1]
      dsimp only
      rw [po_fails_1, Option.bind_some, if_pos rfl]
end PQK

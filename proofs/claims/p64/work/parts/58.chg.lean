section PQD
/-! changes -/
theorem sp_refill_ok {S : sp_S} (ok : sp_ok S) {r : Nat} (hr : r < sp_nr S) (h3 : sp_r S r 3 = 0) : sp_ok (sp_refill S r) := by
  have hm : ∀ x, x ∈ sp_ord S (sp_r S r 0) (max (sp_r S r 2) (sp_dy S)) → x < sp_nb S := fun x hx => (sp_ordk_mem.mp hx).1
  refine sp_give_ok ok hr h3 (fun b _ => sp_tk_le) (fun b hb => sp_tk_no (fun z => by have := hm b z; omega)) ?_
  rw [sp_tk_sum (l := sp_ord S (sp_r S r 0) (max (sp_r S r 2) (sp_dy S))) (sp_srt_0 (e := sp_e S) sp_ordk_srt) hm]
  unfold sp_lack
  rw [if_pos h3]
  omega
theorem sp_resrv_ok {S : sp_S} (ok : sp_ok S) {p q d : Nat} (hn : sp_nr S < 10) (hp : p < 8) (hq : q ≤ 9999) (hd : d ≤ 9999) : sp_ok (sp_resrv S p q d) :=
  sp_refill_ok (sp_addr_ok ok hn hp hq hd) (Nat.lt_succ_self (sp_nr S)) (show (if sp_nr S = sp_nr S then _ else _) = 0 by rw [if_pos rfl]; rfl)
/-- a change has been made: the stock before it can be had back -/
def sa_chg (A : sp_A) (S : sp_S) : sp_A := ((sa_C A, S), (sp_push (sa_S A) (sa_U A), sa_V A), A.2.2)
/-- the stock alone -/
def sa_set (A : sp_A) (S : sp_S) : sp_A := ((sa_C A, S), A.2)
theorem sp_push_mem {S S' : sp_S} {U : List sp_S} (h : S' ∈ sp_push S U) : S' = S ∨ S' ∈ U := List.mem_cons.mp (List.mem_of_mem_take h)
theorem sa_chg_ok {A : sp_A} (ok : sa_ok A) {S : sp_S} (h1 : sp_ok S) (h2 : sp_dy S ≤ 9999) : sa_ok (sa_chg A S) := by
  obtain ⟨⟨o1, o2⟩, ⟨o3, o4⟩, o5, o6, o7, o8, o9⟩ := ok
  refine ⟨⟨o1, h1⟩, ⟨?_, fun S' hS => ?_⟩, o5, o6, o7, o8, h2, fun S' hS => ?_, o9.2.2⟩
  · show (sp_push (sa_S A) (sa_U A)).length ≤ 6
    rw [sp_push_len]
    omega
  · rcases sp_push_mem hS with h | h
    · rw [h]
      exact o2
    · exact o4 S' h
  · rcases sp_push_mem hS with h | h
    · rw [h]
      exact o9.1
    · exact o9.2.1 S' h
theorem sa_set_ok {A : sp_A} (ok : sa_ok A) {S : sp_S} (h1 : sp_ok S) (h2 : sp_dy S ≤ 9999) : sa_ok (sa_set A S) := by
  obtain ⟨⟨o1, o2⟩, ⟨o3, o4⟩, o5, o6, o7, o8, o9⟩ := ok
  exact ⟨⟨o1, h1⟩, ⟨o3, o4⟩, o5, o6, o7, o8, h2, o9.2⟩
variable {A : sp_A} {h : mm_H}
def po_st (z : Nat) : Bool := po_od z || po_in 21 z
theorem po_st_no {z : Nat} (hz : z < 21 ∨ (52 ≤ z ∧ z < 347) ∨ 352 ≤ z) : po_st z = false := by
  unfold po_st
  rw [po_in_no (by omega), po_od_no (by omega)]
  rfl
theorem po_st_c {z : Nat} (hz : po_fc z = false) : po_st z = false := po_st_no (Or.inr (Or.inr (po_fc_no hz)))
theorem po_st_in {a b : mm_H} (hf : po_fr (po_in 21) a b) : po_fr po_st a b := po_fr_mono hf (fun z hz => (Bool.or_eq_false_iff.mp hz).2)
theorem po_st_od {a b : mm_H} (hf : po_fr po_od a b) : po_fr po_st a b := po_fr_mono hf (fun z hz => (Bool.or_eq_false_iff.mp hz).1)
/-- the class's stock changes -/
theorem ra_c_set {h' : mm_H} {S : sp_S} (H : ra_c A h) (hS : sc_S S 21 h') (hf : po_fr po_st h h') : ra_c (sa_set A S) h' := by
  obtain ⟨⟨h1, h2⟩, ⟨h3, h4⟩, ⟨h5, h6⟩, h7, h8⟩ := H
  have hn : ∀ z, z < 21 ∨ (52 ≤ z ∧ z < 347) ∨ 352 ≤ z → po_st z = false := fun z hz => po_st_no hz
  exact ⟨⟨sc_C_fr h1 hf (hn _ (by decide)) (hn _ (by decide)) (hn _ (by decide)) (hn _ (by decide)), hS⟩, ⟨sc_U_fr h3 hf (fun q _ _ => hn q (by omega)), sc_V_fr h4 hf (fun q _ _ => hn q (by omega))⟩, ⟨sc_T_fr h5 hf (hn _ (by decide)) (hn _ (by decide)), sc_T_fr h6 hf (hn _ (by decide)) (hn _ (by decide))⟩, (hf.1 5 (hn _ (by decide)) 1).trans h7, (hf.1 5 (hn _ (by decide)) 2).trans h8⟩
theorem sa_set_push (A : sp_A) (S : sp_S) : sa_set ((A.1, (sp_push (sa_S A) (sa_U A), sa_V A), A.2.2) : sp_A) S = sa_chg A S := rfl
theorem po_hs_no {z : Nat} (hz : z < 90 ∨ 281 ≤ z) : po_hs z = false := decide_eq_false (by omega)
theorem cc_remember (H : ra_c A h) (ok : sa_ok A) : ∃ h1, gX2_remember 21 h = some h1 ∧ ra_c ((A.1, (sp_push (sa_S A) (sa_U A), sa_V A), A.2.2) : sp_A) h1 ∧ po_fr po_fc h h1 := by
  obtain ⟨⟨h1, h2⟩, ⟨h3, h4⟩, ⟨h5, h6⟩, h7, h8⟩ := H
  obtain ⟨x, e1, e2, hf⟩ := pc_remember h2 ok.1.2 h3 ok.2.1.1
  have hn : ∀ z, z < 90 ∨ 281 ≤ z → po_hs z = false := fun z hz => po_hs_no hz
  refine ⟨x, e1, ⟨⟨sc_C_fr h1 hf (hn _ (by decide)) (hn _ (by decide)) (hn _ (by decide)) (hn _ (by decide)), sc_fr h2 hf (fun q hq => ?_)⟩, ⟨e2, sc_V_fr h4 hf (fun q _ _ => hn q (by omega))⟩, ⟨sc_T_fr h5 hf (hn _ (by decide)) (hn _ (by decide)), sc_T_fr h6 hf (hn _ (by decide)) (hn _ (by decide))⟩, (hf.1 5 (hn _ (by decide)) 1).trans h7, (hf.1 5 (hn _ (by decide)) 2).trans h8⟩, po_fr_mono hf (fun z hz => hn z (by have := po_fc_no hz; omega))⟩
  have hq' : 21 ≤ q ∧ q < 21 + 31 := of_decide_eq_true hq
  exact hn q (by omega)
theorem sa_push_ok (ok : sa_ok A) : sa_ok ((A.1, (sp_push (sa_S A) (sa_U A), sa_V A), A.2.2) : sp_A) := sa_chg_ok ok ok.1.2 ok.2.2.2.2.2.2.1
theorem po_fx_fm {a b : mm_H} (H : po_fx a b) : po_fr po_fm a b := po_fm_m H.1
theorem po_rf0 : gX10_refuse 0 h = some (.inl (), h) := rfl
theorem po_rf1 : gX10_refuse 1 h = some (.inr po_IO, ms_X h) := rfl
theorem po_rf2 : gX10_refuse 2 h = some (.inr po_IA, ms_X h) := rfl
theorem po_rf3 : gX10_refuse 3 h = some (.inr po_IS, ms_X h) := rfl
theorem pc_hasP (H : ra_c A h) (ok : sa_ok A) {p : Nat} (hp : p < sp_np (sa_C A)) : gX1_hasProduct 14 (nI p) h = some true := by
  have h8 := ok.1.1.1
  unfold gX1_hasProduct
  rw [H.1.1.1, if_neg (nI_pos (by omega)), if_pos (nI_lt hp (by omega))]
theorem pc_hasPn (H : ra_c A h) {x : Int32} (hx : po_out x (sp_np (sa_C A))) : gX1_hasProduct 14 x h = some false := by
  unfold gX1_hasProduct
  rw [H.1.1.1]
  by_cases h1 : x < 0
  · rw [if_pos h1]
  · rw [if_neg h1, if_neg (hx.resolve_left h1)]
theorem pc_hasB (H : ra_c A h) (ok : sa_ok A) {p : Nat} (hp : p < sp_nb (sa_S A)) : gX7_hasBatch 21 (nI p) h = some true := by
  have h8 := ok.1.2.1.2.1
  unfold gX7_hasBatch
  rw [H.1.2.1.2.1, if_neg (nI_pos (by omega)), if_pos (nI_lt hp (by omega))]
theorem pc_hasBn (H : ra_c A h) {x : Int32} (hx : po_out x (sp_nb (sa_S A))) : gX7_hasBatch 21 x h = some false := by
  unfold gX7_hasBatch
  rw [H.1.2.1.2.1]
  by_cases h1 : x < 0
  · rw [if_pos h1]
  · rw [if_neg h1, if_neg (hx.resolve_left h1)]
theorem pc_hasR (H : ra_c A h) (ok : sa_ok A) {p : Nat} (hp : p < sp_nr (sa_S A)) : gX7_hasReservation 21 (nI p) h = some true := by
  have h8 := ok.1.2.1.2.2
  unfold gX7_hasReservation
  rw [H.1.2.1.2.2, if_neg (nI_pos (by omega)), if_pos (nI_lt hp (by omega))]
theorem pc_hasRn (H : ra_c A h) {x : Int32} (hx : po_out x (sp_nr (sa_S A))) : gX7_hasReservation 21 x h = some false := by
  unfold gX7_hasReservation
  rw [H.1.2.1.2.2]
  by_cases h1 : x < 0
  · rw [if_pos h1]
  · rw [if_neg h1, if_neg (hx.resolve_left h1)]
/-- a refusal told by its number -/
theorem po_rfE {t : Int32} {E : String} (ht : (t = 1 ∧ E = po_IO) ∨ (t = 2 ∧ E = po_IA) ∨ (t = 3 ∧ E = po_IS)) : ∀ h, gX10_refuse t h = some (.inr E, ms_X h) := by
  intro h
  rcases ht with ⟨rfl, rfl⟩ | ⟨rfl, rfl⟩ | ⟨rfl, rfl⟩
  · rfl
  · rfl
  · rfl
end PQD

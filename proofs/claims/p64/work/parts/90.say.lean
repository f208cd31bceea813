section PPS2
/-! the law tells the class its text: words of four letters, twenty letters a call -/
variable {A : sp_A} {h : mm_H} {t n : Nat} {l : Nat → Nat}
theorem tw_step {x : Int32} {m b : Nat} (hx : x.toBitVec.toNat = m) (hm : m < 2 ^ 24) (hb : b < 256) : ((x <<< ((8 : Int32) &&& 31)) ||| nI b).toBitVec.toNat = m * 256 + b := by
  have e1 : ((x <<< ((8 : Int32) &&& 31)) ||| nI b).toBitVec.toNat = (x <<< ((8 : Int32) &&& 31)).toBitVec.toNat ||| (nI b).toBitVec.toNat := BitVec.toNat_or _ _
  have e2 : (nI b).toBitVec.toNat = b := by
    show (BitVec.ofNat 32 b).toNat = b
    rw [BitVec.toNat_ofNat]
    omega
  have e3 : m * 256 = m <<< 8 := (Nat.shiftLeft_eq m 8).symm
  rw [e1, e2, pk_shl x _ 8 (by decide), hx, Nat.mod_eq_of_lt (show m * 2 ^ 8 < 2 ^ 32 by omega), show m * 2 ^ 8 = m * 256 from rfl, e3, Nat.shiftLeft_add_eq_or_of_lt (show b < 2 ^ 8 from hb)]
/-- letter j of the text, blanks behind it -/
def tw_l (l : Nat → Nat) (n j : Nat) : Nat := if j < n then l j else 32
/-- the text t holds n letters l -/
def tw_T (t n : Nat) (l : Nat → Nat) (h : mm_H) : Prop := mh_I h t 1 = 0 ∧ mh_D h (t + 1) 1 = n ∧ ∀ j, j < n → l j < 256 ∧ mh_I h (t + 1) j &&& 255 = nI (l j)
theorem tw_lt (T : tw_T t n l h) (j : Nat) : tw_l l n j < 256 := by
  unfold tw_l
  split
  · next hj => exact (T.2.2 j hj).1
  · decide
theorem tw_1 (T : tw_T t n l h) {m k at0 : Nat} {x : Int32} (hn : n ≤ 300) (hk : k < at0 + 4) (ha : at0 ≤ 400) : gL_word_L4 t (nI at0) h (m + 1) x (nI k) = gL_word_L4 t (nI at0) h m ((x <<< ((8 : Int32) &&& 31)) ||| nI (tw_l l n k)) (nI (k + 1)) := by
  rw [gL_word_L4, show nI at0 + 4 = nI (at0 + 4) from nI_add at0 4, if_pos (nI_lt hk (by omega)), if_pos T.1]
  refine po_jn (fun j8 e8 => ?_)
  rw [T.2.1]
  have fin : ∀ v : Int32, v = nI (tw_l l n k) → j8 v (x <<< ((8 : Int32) &&& 31)) = gL_word_L4 t (nI at0) h m ((x <<< ((8 : Int32) &&& 31)) ||| nI (tw_l l n k)) (nI (k + 1)) := fun v hv => by
    rw [e8, hv]
    dsimp only
    rw [Option.bind_some, Option.bind_some, nI_1]
  by_cases hkn : k < n
  · rw [if_pos (nI_lt hkn (by omega)), if_pos ⟨T.1, po_ibd hkn (by omega)⟩, nI_clamp (by omega)]
    exact fin _ (by rw [(T.2.2 k hkn).2, tw_l, if_pos hkn])
  · rw [if_neg (nI_nlt (by omega) (by omega))]
    exact fin 32 (by rw [tw_l, if_neg hkn]; rfl)
theorem tw_word (T : tw_T t n l h) {k : Nat} (hn : n ≤ 300) (hk : k ≤ 400) : ∃ x : Int32, gL_word t (nI k) h = some x ∧ x.toBitVec.toNat = ((tw_l l n k * 256 + tw_l l n (k + 1)) * 256 + tw_l l n (k + 2)) * 256 + tw_l l n (k + 3) := by
  have b0 := tw_lt T k
  have b1 := tw_lt T (k + 1)
  have b2 := tw_lt T (k + 2)
  have b3 := tw_lt T (k + 3)
  have w0 := tw_step (x := 0) (m := 0) (by decide) (by decide) b0
  have w1 := tw_step w0 (by omega) b1
  have w2 := tw_step w1 (by omega) b2
  have w3 := tw_step w2 (by omega) b3
  refine ⟨_, ?_, w3.trans (by omega)⟩
  have e : gL_word t (nI k) h = gL_word_L4 t (nI k) h (99995 + 1 + 1 + 1 + 1 + 1) 0 (nI k) := rfl
  rw [e, tw_1 T hn (by omega) hk, tw_1 T hn (by omega) hk, tw_1 T hn (by omega) hk, tw_1 T hn (by omega) hk, gL_word_L4, show nI k + 4 = nI (k + 4) from nI_add k 4, if_neg (nI_nlt (by omega) (by omega))]
theorem tw_by {x : Int32} {a b c d : Nat} (h : x.toBitVec.toNat = ((a * 256 + b) * 256 + c) * 256 + d) (ha : a < 256) (hb : b < 256) (hc : c < 256) (hd : d < 256) : sp_by x 24 = a ∧ sp_by x 16 = b ∧ sp_by x 8 = c ∧ sp_by x 0 = d := by
  unfold sp_by
  rw [h]
  refine ⟨?_, ?_, ?_, ?_⟩ <;> omega
/-- the input holds the first k letters -/
def tw_in (l : Nat → Nat) (n k : Nat) (T : sp_T) : Prop := T.1 = k ∧ ∀ j, j < k → T.2 j = tw_l l n j
theorem tw_app {T : sp_T} {k v : Nat} (I : tw_in l n k T) (hv : v = tw_l l n k) : tw_in l n (k + 1) (sp_app T v) := by
  obtain ⟨i1, i2⟩ := I
  refine ⟨congrArg (· + 1) i1, fun j hj => ?_⟩
  show (if j = T.1 then v else T.2 j) = _
  by_cases hjk : j = T.1
  · rw [if_pos hjk, hv, hjk, i1]
  · rw [if_neg hjk]
    exact i2 j (by omega)
theorem tw_app4 {T : sp_T} {k : Nat} {x : Int32} (tt : tw_T t n l h) (I : tw_in l n k T) (hx : x.toBitVec.toNat = ((tw_l l n k * 256 + tw_l l n (k + 1)) * 256 + tw_l l n (k + 2)) * 256 + tw_l l n (k + 3)) : tw_in l n (k + 4) (sp_app4 T x) := by
  obtain ⟨a, b, c, d⟩ := tw_by hx (tw_lt tt _) (tw_lt tt _) (tw_lt tt _) (tw_lt tt _)
  exact tw_app (tw_app (tw_app (tw_app I a) b) c) d
theorem tw_fr {h' : mm_H} (T : tw_T t n l h) (ht : 352 ≤ t) (f : po_fr po_fc h h') : tw_T t n l h' := ⟨(f.1 t (po_fc_352 t ht) 1).trans T.1, by rw [f.2.2.2.2]; exact T.2.1, fun j hj => ⟨(T.2.2 j hj).1, by rw [f.1 (t + 1) (po_fc_352 _ (by omega)) j]; exact (T.2.2 j hj).2⟩⟩
theorem tw_loop (ht : 352 ≤ t) (hn : n ≤ 300) : ∀ d m k A h, ra_c A h → sa_ok A → tw_T t n l h → tw_in l n k (sa_T A) → n ≤ k + 20 * d → k ≤ n + 20 → d < m →
    ∃ A' h', gL_say_L8 t m (nI k) h = some (.inl true, h') ∧ ra_c A' h' ∧ sa_ok A' ∧ tw_in l n n (sa_T A') ∧ A'.1 = A.1 ∧ po_fr po_fc h h' := by
  intro d
  induction d with
  | zero =>
    intro m k A h H ok T I hd hk hm
    obtain ⟨m, rfl⟩ : ∃ m', m = m' + 1 := ⟨m - 1, by omega⟩
    obtain ⟨o1, h2, g1, g2, g3⟩ := cc_truncate H ok (n := n) (by rw [I.1]; omega)
    have T2 := tw_fr T ht g3
    refine ⟨_, h2, ?_, g2, o1, ⟨rfl, fun j hj => I.2 j (by omega)⟩, rfl, g3⟩
    rw [gL_say_L8, if_pos T.1, T.2.1, if_neg (nI_nlt (by omega) (by omega)), if_pos T.1, g1, Option.bind_some]
    dsimp only
    rw [if_pos T2.1, T2.2.1, if_pos rfl]
  | succ d ih =>
    intro m k A h H ok T I hd hk hm
    obtain ⟨m, rfl⟩ : ∃ m', m = m' + 1 := ⟨m - 1, by omega⟩
    by_cases hkn : k < n
    · obtain ⟨x1, e1, b1⟩ := tw_word T (k := k) hn (by omega)
      obtain ⟨x2, e2, b2⟩ := tw_word T (k := k + 4) hn (by omega)
      obtain ⟨x3, e3, b3⟩ := tw_word T (k := k + 8) hn (by omega)
      obtain ⟨x4, e4, b4⟩ := tw_word T (k := k + 12) hn (by omega)
      obtain ⟨x5, e5, b5⟩ := tw_word T (k := k + 16) hn (by omega)
      obtain ⟨o1, h2, g1, g2, g3⟩ := cc_append H ok x1 x2 x3 x4 x5 (by rw [I.1]; omega)
      have I2 := tw_app4 T (tw_app4 T (tw_app4 T (tw_app4 T (tw_app4 T I b1) b2) b3) b4) b5
      obtain ⟨A', h', k1, k2, k3, k4, k5, k6⟩ := ih m (k + 20) _ h2 g2 o1 (tw_fr T ht g3) I2 (by omega) (by omega) (by omega)
      refine ⟨A', h', ?_, k2, k3, k4, k5, po_fr_trans g3 k6⟩
      rw [gL_say_L8, if_pos T.1, T.2.1, if_pos (nI_lt hkn (by omega)), e1, Option.bind_some, show nI k + 4 = nI (k + 4) from nI_add k 4, e2, Option.bind_some, show nI k + 8 = nI (k + 8) from nI_add k 8, e3, Option.bind_some, show nI k + 12 = nI (k + 12) from nI_add k 12, e4, Option.bind_some, show nI k + 16 = nI (k + 16) from nI_add k 16, e5, Option.bind_some, g1, Option.bind_some]
      dsimp only
      rw [Option.bind_some, show nI k + 20 = nI (k + 20) from nI_add k 20]
      exact k1
    · obtain ⟨o1, h2, g1, g2, g3⟩ := cc_truncate H ok (n := n) (by rw [I.1]; omega)
      have T2 := tw_fr T ht g3
      refine ⟨_, h2, ?_, g2, o1, ⟨rfl, fun j hj => I.2 j (by omega)⟩, rfl, g3⟩
      rw [gL_say_L8, if_pos T.1, T.2.1, if_neg (nI_nlt (by omega) (by omega)), if_pos T.1, g1, Option.bind_some]
      dsimp only
      rw [if_pos T2.1, T2.2.1, if_pos rfl]
theorem tw_say (H : ra_c A h) (ok : sa_ok A) (ht : 352 ≤ t) (hn : n ≤ 300) (T : tw_T t n l h) : ∃ A' h', gL_say t h = some (.inl true, h') ∧ ra_c A' h' ∧ sa_ok A' ∧ tw_in l n n (sa_T A') ∧ A'.1 = A.1 ∧ po_fr po_fc h h' := by
  obtain ⟨o1, h2, g1, g2, g3⟩ := cc_truncate H ok (n := 0) (Nat.zero_le _)
  obtain ⟨A', h', k1, k2, k3, k4, k5, k6⟩ := tw_loop (l := l) ht hn 15 mm_F 0 _ h2 g2 o1 (tw_fr T ht g3) ⟨rfl, fun j hj => absurd hj (Nat.not_lt_zero j)⟩ (by omega) (by omega) (by decide)
  refine ⟨A', h', ?_, k2, k3, k4, k5, po_fr_trans g3 k6⟩
  have g1' : gX10_truncate 0 h = some (.inl (nI 0), h2) := g1
  unfold gL_say
  rw [g1', Option.bind_some]
  exact k1
end PPS2

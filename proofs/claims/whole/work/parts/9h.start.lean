section PRS
/-! the law's start: what stands outside the machine (gen9h.py) -/
def su_pl : List Nat := [400, 473, 474, 701, 758, 830, 854, 878, 888, 929, 936, 959, 1045, 1130, 1283, 1284, 1418, 1419, 1420, 1421, 1422, 1423, 1424, 1425, 1426, 1442, 1463, 1482, 1496, 1522, 1534, 1555, 1568, 1592, 1699, 1700, 1701, 1702, 1703, 1704, 1705, 1706, 1707]
theorem su_r : ∀ i, i < 43 → lw_tbl[su_pl.getD i 0]? = some (Cond.stringRef (mm_srl.getD i ("", 0, "", 0)).1 (mm_srl.getD i ("", 0, "", 0)).2.1 (mm_srl.getD i ("", 0, "", 0)).2.2.1) := by decide +kernel
theorem su_q : ∀ q ∈ mm_srl, q.2.2.2 < 43 ∧ mm_srl.getD q.2.2.2 ("", 0, "", 0) = q := by decide +kernel
variable {s : State} {args : Array Value}
theorem su_R (hts : ∀ w ∈ lw_tbl, w.before args s = true) {adK : Nat → Nat} (hK : ∀ i, i < 43 → (st_tm i).eval args s none [] s = some (.ref (adK i))) : ∀ q ∈ mm_srl, vk_R q.1 q.2.1 q.2.2.1 (adK q.2.2.2) s := by
  intro q hq
  obtain ⟨h1, h2⟩ := su_q q hq
  have h3 := List.mem_of_getElem? (su_r _ h1)
  have h4 := hK _ h1
  unfold st_tm at h4
  rw [h2] at h3 h4
  exact vk_R.of (hts _ h3) h4
theorem su_k {C : String} {T : u_T} {N n : Nat} (hts : ∀ w ∈ lw_tbl, w.before args s = true) (h1 : ∀ w ∈ u_ws C T N, w ∈ mm_gw) (h2 : Cond.instantiable C n ∈ lw_tbl) : ∃ d : ClassId × (Nat → Nat), u_Kn s C T N d.1 d.2 := by
  obtain ⟨cC, iS, h⟩ := u_known (T := T) (N := N) hts (fun w hw => (List.mem_filter.mp (h1 w hw)).1) (hts _ h2)
  exact ⟨(cC, iS), h⟩
theorem su_i0 : Cond.instantiable RX0 3 ∈ lw_tbl := List.mem_of_getElem? (i := 379) (by decide +kernel)
theorem su_i1 : Cond.instantiable RX1 4 ∈ lw_tbl := List.mem_of_getElem? (i := 239) (by decide +kernel)
theorem su_i2 : Cond.instantiable RX2 3 ∈ lw_tbl := List.mem_of_getElem? (i := 341) (by decide +kernel)
theorem su_i3 : Cond.instantiable RX3 3 ∈ lw_tbl := List.mem_of_getElem? (i := 159) (by decide +kernel)
theorem su_i4 : Cond.instantiable RX4 1 ∈ lw_tbl := List.mem_of_getElem? (i := 212) (by decide +kernel)
theorem su_i5 : Cond.instantiable RX5 4 ∈ lw_tbl := List.mem_of_getElem? (i := 206) (by decide +kernel)
theorem su_i6 : Cond.instantiable RX6 2 ∈ lw_tbl := List.mem_of_getElem? (i := 347) (by decide +kernel)
theorem su_i7 : Cond.instantiable RX7 18 ∈ lw_tbl := List.mem_of_getElem? (i := 263) (by decide +kernel)
theorem su_i8 : Cond.instantiable RX8 2 ∈ lw_tbl := List.mem_of_getElem? (i := 140) (by decide +kernel)
theorem su_i9 : Cond.instantiable RX9 5 ∈ lw_tbl := List.mem_of_getElem? (i := 165) (by decide +kernel)
theorem su_i10 : Cond.instantiable RX10 11 ∈ lw_tbl := List.mem_of_getElem? (i := 132) (by decide +kernel)
theorem su_i11 : Cond.instantiable RX11 15 ∈ lw_tbl := List.mem_of_getElem? (i := 1529) (by decide +kernel)
theorem su_K1 (hts : ∀ w ∈ lw_tbl, w.before args s = true) : ∀ q ∈ mm_cl, ∃ d : ClassId × (Nat → Nat), u_Kn s q.1 q.2.1 q.2.2 d.1 d.2 := List.forall_mem_cons.mpr ⟨su_k hts inRX0 su_i0, List.forall_mem_cons.mpr ⟨su_k hts inRX1 su_i1, List.forall_mem_cons.mpr ⟨su_k hts inRX2 su_i2, List.forall_mem_cons.mpr ⟨su_k hts inRX3 su_i3, List.forall_mem_cons.mpr ⟨su_k hts inRX4 su_i4, List.forall_mem_cons.mpr ⟨su_k hts inRX5 su_i5, List.forall_mem_cons.mpr ⟨su_k hts inRX6 su_i6, List.forall_mem_cons.mpr ⟨su_k hts inRX7 su_i7, List.forall_mem_cons.mpr ⟨su_k hts inRX8 su_i8, List.forall_mem_cons.mpr ⟨su_k hts inRX9 su_i9, List.forall_mem_cons.mpr ⟨su_k hts inRX10 su_i10, List.forall_mem_cons.mpr ⟨su_k hts inRX11 su_i11, fun _ h => nomatch h⟩⟩⟩⟩⟩⟩⟩⟩⟩⟩⟩⟩
theorem su_K2 (hts : ∀ w ∈ lw_tbl, w.before args s = true) : ∃ G : va_G, ∀ (c : Nat) (q : vw_C), mm_cl[c]? = some q → u_Kn s q.1 q.2.1 q.2.2 (G.1 c) (G.2 c) := by
  have h : ∀ c : Nat, ∃ d : ClassId × (Nat → Nat), ∀ q : vw_C, mm_cl[c]? = some q → u_Kn s q.1 q.2.1 q.2.2 d.1 d.2 := fun c => by
    cases hc : mm_cl[c]? with
    | none => exact ⟨(0, fun _ => 0), fun q hq => (by cases hq)⟩
    | some q =>
      obtain ⟨d, hd⟩ := su_K1 hts q (List.mem_of_getElem? hc)
      exact ⟨d, fun q' hq => (by cases hq; exact hd)⟩
  obtain ⟨f, hf⟩ := Classical.axiomOfChoice h
  exact ⟨(fun c => (f c).1, fun c => (f c).2), hf⟩
theorem su_a {ty : FieldType} (h : (Cond.arrayClass ty).before args s = true) (h2 : ∀ c, s.vm.findClass ("[" ++ ty.toString) = some c → va_RA s c ty) : ∃ c, ArrOfT s c ty ∧ va_RA s c ty := by
  obtain ⟨c, k, comp, h3, h4, h5⟩ := Cond.arrayClass_spec h
  exact ⟨c, fun n z => ⟨fun k h => (by cases h), k, h4, comp, h5⟩, h2 c h3⟩
theorem su_o {C : String} (h : va_AO C s) : ∃ c, ArrOfT s c (.object C) ∧ va_RA s c (.object C) := by
  obtain ⟨comp, c, k, h1, h2, h3, h4, h5⟩ := Cond.arrayOver_spec h
  exact ⟨c, fun n z => ⟨fun k h => (by cases h), k, h3, comp, h4⟩, k, comp, h3, h4, h1, h5⟩
theorem su_w_int : Cond.arrayClass .int ∈ lw_tbl := List.mem_of_getElem? (i := 222) (by decide +kernel)
theorem su_w_boolean : Cond.arrayClass .boolean ∈ lw_tbl := List.mem_of_getElem? (i := 1659) (by decide +kernel)
theorem su_w_byte : Cond.arrayClass .byte ∈ lw_tbl := List.mem_of_getElem? (i := 157) (by decide +kernel)
theorem su_w_long : Cond.arrayClass .long ∈ lw_tbl := List.mem_of_getElem? (i := 2127) (by decide +kernel)
theorem su_w_double : Cond.arrayClass .double ∈ lw_tbl := List.mem_of_getElem? (i := 2128) (by decide +kernel)
theorem su_w_obj : Cond.arrayOver (.object "BatchWarehouse$Stock") ∈ lw_tbl := List.mem_of_getElem? (i := 354) (by decide +kernel)
theorem su_A (hts : ∀ w ∈ lw_tbl, w.before args s = true) : ∃ dA : Nat → ClassId, ∀ q ∈ [(dA 0, FieldType.int), (dA 1, .boolean), (dA 2, .byte), (dA 3, .long), (dA 4, .double), (dA 5, .object "BatchWarehouse$Stock")], ArrOfT s q.1 q.2 ∧ va_RA s q.1 q.2 := by
  obtain ⟨c0, h0⟩ := su_a (hts _ su_w_int) (fun c h => h)
  obtain ⟨c1, h1⟩ := su_a (hts _ su_w_boolean) (fun c h => h)
  obtain ⟨c2, h2⟩ := su_a (hts _ su_w_byte) (fun c h => h)
  obtain ⟨c3, h3⟩ := su_a (hts _ su_w_long) (fun c h => h)
  obtain ⟨c4, h4⟩ := su_a (hts _ su_w_double) (fun c h => h)
  obtain ⟨c5, h5⟩ := su_o (va_AO.of (hts _ su_w_obj))
  exact ⟨fun k => [c0, c1, c2, c3, c4, c5].getD k 0, List.forall_mem_cons.mpr ⟨h0, List.forall_mem_cons.mpr ⟨h1, List.forall_mem_cons.mpr ⟨h2, List.forall_mem_cons.mpr ⟨h3, List.forall_mem_cons.mpr ⟨h4, List.forall_mem_cons.mpr ⟨h5, fun _ h => nomatch h⟩⟩⟩⟩⟩⟩⟩
theorem su_l1 : Cond.laysStatic "java/lang/String" "COMPACT_STRINGS" "Z" ∈ lw_tbl := List.mem_of_getElem? (i := 422) (by decide +kernel)
theorem su_l2 : Cond.laysStatic "jdk/internal/util/Preconditions" "SIOOBE_FORMATTER" "Ljava/util/function/BiFunction;" ∈ lw_tbl := List.mem_of_getElem? (i := 438) (by decide +kernel)
theorem su_l3 : Cond.laysStatic Bundle.tN "UNASSIGNED_STACK" Bundle.steD ∈ lw_tbl := List.mem_of_getElem? (i := 686) (by decide +kernel)
theorem su_l4 : Cond.laysStatic Bundle.tN "SUPPRESSED_SENTINEL" Bundle.listD ∈ lw_tbl := List.mem_of_getElem? (i := 688) (by decide +kernel)
theorem su_n1 : Cond.initialized "java/lang/String" ∈ lw_tbl := List.mem_of_getElem? (i := 118) (by decide +kernel)
theorem su_n2 : Cond.initialized "jdk/internal/util/Preconditions" ∈ lw_tbl := List.mem_of_getElem? (i := 120) (by decide +kernel)
theorem su_n3 : Cond.initialized Bundle.tN ∈ lw_tbl := List.mem_of_getElem? (i := 123) (by decide +kernel)
theorem su_g1 : Cond.eq (.static "java/lang/String" "COMPACT_STRINGS" "Z") (.int 1) ∈ st_ws := List.mem_of_getElem? (i := 4) (by decide +kernel)
theorem su_g2 : Cond.isRef (.static "jdk/internal/util/Preconditions" "SIOOBE_FORMATTER" "Ljava/util/function/BiFunction;") ∈ st_ws := List.mem_of_getElem? (i := 5) (by decide +kernel)
theorem su_g3 : Cond.isRef (.static Bundle.tN "UNASSIGNED_STACK" Bundle.steD) ∈ st_ws := List.mem_of_getElem? (i := 9) (by decide +kernel)
theorem su_g4 : Cond.isRef (.static Bundle.tN "SUPPRESSED_SENTINEL" Bundle.listD) ∈ st_ws := List.mem_of_getElem? (i := 10) (by decide +kernel)
theorem su_g5 : Cond.not (.castable "java/lang/IllegalArgumentException" "java/lang/IndexOutOfBoundsException") ∈ st_ws := List.mem_of_getElem? (i := 54) (by decide +kernel)
theorem su_g6 : Cond.not (.castable "java/lang/IllegalStateException" "java/lang/IndexOutOfBoundsException") ∈ st_ws := List.mem_of_getElem? (i := 53) (by decide +kernel)
theorem su_g7 : Cond.not (.castable "java/lang/IllegalStateException" "java/lang/IllegalArgumentException") ∈ st_ws := List.mem_of_getElem? (i := 38) (by decide +kernel)
theorem su_nw {w : Cond} (h : mm_nw w = true) : w.onTables = true := by
  cases w <;> first | rfl | exact absurd h (by simp [mm_nw])
theorem su_E {b L : Nat} {xs : Nat → Int32} (hts : ∀ w ∈ lw_tbl, w.before args s = true) (hgv : (Jvm.Cond.and given_1 narrow_1).before args s = true) (hX : va_X b L xs s s.heap) (hb : b < s.heap.size) (hL : L ≤ 3072) : ∃ X : mm_X, X.1 = (s.heap.size, b, L, xs) ∧ mm_E X s s.heap := by
  have hw : ∀ w ∈ st_ws, w.before args s = true := flat_of_before _ hgv
  obtain ⟨G, hG⟩ := su_K2 hts
  obtain ⟨dA, hdA⟩ := su_A hts
  have hA : ∀ a : Nat, a < s.heap.size → ¬ s.heap.size ≤ a := fun a h => Nat.not_le.mpr h
  obtain ⟨adK, adV, hS⟩ := st_S (A := fun q => s.heap.size ≤ q) (fun i j hi hj => st_w5 hi hj) hw hA
  have hF : ∃ adF : Nat, va_Z "jdk/internal/util/Preconditions" "SIOOBE_FORMATTER" "Ljava/util/function/BiFunction;" .null (fun q => s.heap.size ≤ q) s s.heap ∨ va_Z "jdk/internal/util/Preconditions" "SIOOBE_FORMATTER" "Ljava/util/function/BiFunction;" (.ref adF) (fun q => s.heap.size ≤ q) s s.heap := by
    rcases va_Zqof (A := fun q => s.heap.size ≤ q) (hts _ su_l2) (hts _ su_n2) (hw _ su_g2) hA with h | ⟨t, h⟩
    · exact ⟨0, Or.inl h⟩
    · exact ⟨t, Or.inr h⟩
  obtain ⟨adF, hF⟩ := hF
  refine ⟨((s.heap.size, b, L, xs), (adK, adV, adF), (G, dA)), rfl, ⟨hb, hL, Nat.le_refl _⟩, hX, ⟨hG, fun k q hk => hdA q (List.mem_of_getElem? hk)⟩, fun i hi => (hS i hi).2, su_R hts (fun i hi => (hS i hi).1), ⟨vx_Zqof (hts _ su_l3) (hts _ su_n3) (hw _ su_g3) hA, vx_Zqof (hts _ su_l4) (hts _ su_n3) (hw _ su_g4) hA⟩, fun w hw9 hg => va_Nw.of (su_nw hg) (hts w hw9), va_AO.of (hts _ su_w_obj), va_Zof (hts _ su_l1) (hts _ su_n1) (va_eqi (hw _ su_g1)) hA, hF, ?_⟩
  exact List.forall_mem_cons.mpr ⟨va_Nc.of (hw _ su_g5), List.forall_mem_cons.mpr ⟨va_Nc.of (hw _ su_g6), List.forall_mem_cons.mpr ⟨va_Nc.of (hw _ su_g7), fun _ h => nomatch h⟩⟩⟩
end PRS

section PRS
/-! the law's start: what stands outside the machine (gen9h.py) -/
def su_pl : List Nat := [312, 385, 386, 487, 511, 537, 595, 672, 696, 701, 754, 800, 810, 1003, 1017, 1147, 1188]
theorem su_r : ∀ i, i < 17 → lw_tbl[su_pl.getD i 0]? = some (Cond.stringRef (mm_srl.getD i ("", 0, "", 0)).1 (mm_srl.getD i ("", 0, "", 0)).2.1 (mm_srl.getD i ("", 0, "", 0)).2.2.1) := by decide +kernel
theorem su_q : ∀ q ∈ mm_srl, q.2.2.2 < 17 ∧ mm_srl.getD q.2.2.2 ("", 0, "", 0) = q := by decide +kernel
variable {s : State} {args : Array Value}
theorem su_R (hts : ∀ w ∈ lw_tbl, w.before args s = true) {adK : Nat → Nat} (hK : ∀ i, i < 17 → (st_tm i).eval args s none [] s = some (.ref (adK i))) : ∀ q ∈ mm_srl, vk_R q.1 q.2.1 q.2.2.1 (adK q.2.2.2) s := by
  intro q hq
  obtain ⟨h1, h2⟩ := su_q q hq
  have h3 := List.mem_of_getElem? (su_r _ h1)
  have h4 := hK _ h1
  unfold st_tm at h4
  rw [h2] at h3 h4
  exact vk_R.of (hts _ h3) h4
theorem su_k {C : String} {T : u_T} {N n : Nat} (hts : ∀ w ∈ lw_tbl, w.before args s = true) (h1 : ∀ w ∈ u_ws C T N, w ∈ mm_gw) (h2 : Cond.instantiable C n ∈ lw_tbl) : ∃ d : ClassId × (Nat → Nat), u_Kn s C T N d.1 d.2 := by
  obtain ⟨cC, iS, h⟩ := u_known (T := T) (N := N) hts (fun w hw => (List.mem_filter.mp (h1 w hw)).1) (hts _ h2)
  exact ⟨(cC, iS), h⟩
theorem su_i0 : Cond.instantiable RX0 3 ∈ lw_tbl := List.mem_of_getElem? (i := 293) (by decide +kernel)
theorem su_i1 : Cond.instantiable RX1 4 ∈ lw_tbl := List.mem_of_getElem? (i := 162) (by decide +kernel)
theorem su_i2 : Cond.instantiable RX2 3 ∈ lw_tbl := List.mem_of_getElem? (i := 256) (by decide +kernel)
theorem su_i3 : Cond.instantiable RX3 3 ∈ lw_tbl := List.mem_of_getElem? (i := 88) (by decide +kernel)
theorem su_i4 : Cond.instantiable RX4 1 ∈ lw_tbl := List.mem_of_getElem? (i := 139) (by decide +kernel)
theorem su_i5 : Cond.instantiable RX5 4 ∈ lw_tbl := List.mem_of_getElem? (i := 133) (by decide +kernel)
theorem su_i6 : Cond.instantiable RX6 2 ∈ lw_tbl := List.mem_of_getElem? (i := 262) (by decide +kernel)
theorem su_i7 : Cond.instantiable RX7 18 ∈ lw_tbl := List.mem_of_getElem? (i := 184) (by decide +kernel)
theorem su_i8 : Cond.instantiable RX8 2 ∈ lw_tbl := List.mem_of_getElem? (i := 69) (by decide +kernel)
theorem su_i9 : Cond.instantiable RX9 5 ∈ lw_tbl := List.mem_of_getElem? (i := 94) (by decide +kernel)
theorem su_i10 : Cond.instantiable RX10 11 ∈ lw_tbl := List.mem_of_getElem? (i := 61) (by decide +kernel)
theorem su_i11 : Cond.instantiable RX11 5 ∈ lw_tbl := List.mem_of_getElem? (i := 884) (by decide +kernel)
theorem su_i12 : Cond.instantiable RJ4 4 ∈ lw_tbl := List.mem_of_getElem? (i := 1016) (by decide +kernel)
theorem su_i13 : Cond.instantiable RJ0 4 ∈ lw_tbl := List.mem_of_getElem? (i := 1194) (by decide +kernel)
theorem su_K1 (hts : ∀ w ∈ lw_tbl, w.before args s = true) : ∀ q ∈ mm_cl, ∃ d : ClassId × (Nat → Nat), u_Kn s q.1 q.2.1 q.2.2 d.1 d.2 := List.forall_mem_cons.mpr ⟨su_k hts inRX0 su_i0, List.forall_mem_cons.mpr ⟨su_k hts inRX1 su_i1, List.forall_mem_cons.mpr ⟨su_k hts inRX2 su_i2, List.forall_mem_cons.mpr ⟨su_k hts inRX3 su_i3, List.forall_mem_cons.mpr ⟨su_k hts inRX4 su_i4, List.forall_mem_cons.mpr ⟨su_k hts inRX5 su_i5, List.forall_mem_cons.mpr ⟨su_k hts inRX6 su_i6, List.forall_mem_cons.mpr ⟨su_k hts inRX7 su_i7, List.forall_mem_cons.mpr ⟨su_k hts inRX8 su_i8, List.forall_mem_cons.mpr ⟨su_k hts inRX9 su_i9, List.forall_mem_cons.mpr ⟨su_k hts inRX10 su_i10, List.forall_mem_cons.mpr ⟨su_k hts inRX11 su_i11, List.forall_mem_cons.mpr ⟨su_k hts inRJ4 su_i12, List.forall_mem_cons.mpr ⟨su_k hts inRJ0 su_i13, fun _ h => nomatch h⟩⟩⟩⟩⟩⟩⟩⟩⟩⟩⟩⟩⟩⟩
theorem su_K2 (hts : ∀ w ∈ lw_tbl, w.before args s = true) : ∃ G : va_G, ∀ (c : Nat) (q : vw_C), mm_cl[c]? = some q → u_Kn s q.1 q.2.1 q.2.2 (G.1 c) (G.2 c) := by
  have h : ∀ c : Nat, ∃ d : ClassId × (Nat → Nat), ∀ q : vw_C, mm_cl[c]? = some q → u_Kn s q.1 q.2.1 q.2.2 d.1 d.2 := fun c => by
    cases hc : mm_cl[c]? with
    | none => exact ⟨(0, fun _ => 0), fun q hq => (by cases hq)⟩
    | some q =>
      obtain ⟨d, hd⟩ := su_K1 hts q (List.mem_of_getElem? hc)
      exact ⟨d, fun q' hq => (by cases hq; exact hd)⟩
  obtain ⟨f, hf⟩ := Classical.axiomOfChoice h
  exact ⟨(fun c => (f c).1, fun c => (f c).2), hf⟩
theorem su_a {ty : FieldType} (h : (Cond.arrayClass ty).before args s = true) : ∃ c, ArrOfT s c ty ∧ s.vm.findClass ("[" ++ ty.toString) = some c ∧ ∃ (k : Class) (comp : ClassId), s.vm.classes[c]? = some k ∧ k.kind = .array comp ty := by
  obtain ⟨c, k, comp, h3, h4, h5⟩ := Cond.arrayClass_spec h
  exact ⟨c, fun n z => ⟨fun k h => (by cases h), k, h4, comp, h5⟩, h3, k, comp, h4, h5⟩
theorem su_o {C : String} (h : va_AO C s) : ∃ c, ArrOfT s c (.object C) ∧ va_RA s c (.object C) := by
  obtain ⟨comp, c, k, h1, h2, h3, h4, h5⟩ := Cond.arrayOver_spec h
  exact ⟨c, fun n z => ⟨fun k h => (by cases h), k, h3, comp, h4⟩, k, comp, h3, h4, h1, h5⟩
theorem su_oA {t : FieldType} (h : (Cond.arrayOver (.array t)).before args s = true) :
    ∃ comp c k, s.vm.findClass (FieldType.array t).toString = some comp ∧ s.vm.classes[c]? = some k ∧ k.kind = .array comp (.array t) ∧ s.vm.findClass ("[" ++ (FieldType.array t).toString) = some c := by
  simp only [Cond.before, Cond.holds, Cond.value, beq_iff_eq] at h
  cases hc : s.vm.findClass (FieldType.array t).toString with
  | none => simp [hc] at h
  | some comp =>
    simp only [hc, Option.bind_some, Option.bind_eq_some_iff, Option.map_eq_some_iff] at h
    obtain ⟨c, hi, k, hk, hb⟩ := h
    obtain ⟨hlt, hp, -⟩ := Array.findIdx?_eq_some_iff_getElem.mp hi
    have hkk : s.vm.classes[c] = k := (Array.getElem?_eq_some_iff.mp hk).2
    rw [hkk] at hp
    cases hkind : k.kind with
    | array component ty =>
      rw [hkind] at hb hp
      simp at hb hp
      exact ⟨comp, c, k, rfl, hk, by rw [hkind, hp, hb.1], hb.2⟩
    | _ => rw [hkind] at hb; simp at hb
theorem su_w_int : Cond.arrayClass .int ∈ lw_tbl := List.mem_of_getElem? (i := 149) (by decide +kernel)
theorem su_w_byte : Cond.arrayClass .byte ∈ lw_tbl := List.mem_of_getElem? (i := 86) (by decide +kernel)
theorem su_w_obj : Cond.arrayOver (.object "BatchWarehouse$Stock") ∈ lw_tbl := List.mem_of_getElem? (i := 269) (by decide +kernel)
theorem su_w_arr : Cond.arrayOver (.array .int) ∈ lw_tbl := List.mem_of_getElem? (i := 890) (by decide +kernel)
theorem su_A (hts : ∀ w ∈ lw_tbl, w.before args s = true) : ∃ dA : Nat → ClassId, (∀ q ∈ [(dA 0, FieldType.int), (dA 0, .int), (dA 2, .byte), (dA 0, .int), (dA 0, .int), (dA 5, .object "BatchWarehouse$Stock"), (dA 6, .array .int)], ArrOfT s q.1 q.2 ∧ va_RA s q.1 q.2) ∧ (∃ (k : Class) (c : ClassId), s.vm.classes[dA 0]? = some k ∧ k.kind = .array c .int) ∧ ∃ k : Class, s.vm.classes[dA 6]? = some k ∧ k.kind = .array (dA 0) (.array .int) := by
  obtain ⟨c0, h0, f0, k0, m0, g1, g2⟩ := su_a (hts _ su_w_int)
  obtain ⟨c2, h2, f2, -⟩ := su_a (hts _ su_w_byte)
  obtain ⟨c5, h5⟩ := su_o (va_AO.of (hts _ su_w_obj))
  obtain ⟨comp, c6, k6, e1, e2, e3, e4⟩ := su_oA (hts _ su_w_arr)
  have he : comp = c0 := Option.some.inj (e1.symm.trans f0)
  rw [he] at e3
  have z0 : ArrOfT s c0 .int ∧ va_RA s c0 .int := ⟨h0, f0⟩
  have z2 : ArrOfT s c2 .byte ∧ va_RA s c2 .byte := ⟨h2, f2⟩
  have z6 : ArrOfT s c6 (.array .int) ∧ va_RA s c6 (.array .int) := ⟨fun n z => ⟨fun k h => (by cases h), k6, e2, c0, e3⟩, e4⟩
  exact ⟨fun k => [c0, c0, c2, c0, c0, c5, c6].getD k 0, List.forall_mem_cons.mpr ⟨z0, List.forall_mem_cons.mpr ⟨z0, List.forall_mem_cons.mpr ⟨z2, List.forall_mem_cons.mpr ⟨z0, List.forall_mem_cons.mpr ⟨z0, List.forall_mem_cons.mpr ⟨h5, List.forall_mem_cons.mpr ⟨z6, fun _ h => nomatch h⟩⟩⟩⟩⟩⟩⟩, ⟨k0, m0, g1, g2⟩, k6, e2, e3⟩
theorem su_l1 : Cond.laysStatic "java/lang/String" "COMPACT_STRINGS" "Z" ∈ lw_tbl := List.mem_of_getElem? (i := 334) (by decide +kernel)
theorem su_l2 : Cond.laysStatic "jdk/internal/util/Preconditions" "SIOOBE_FORMATTER" "Ljava/util/function/BiFunction;" ∈ lw_tbl := List.mem_of_getElem? (i := 350) (by decide +kernel)
theorem su_l3 : Cond.laysStatic Bundle.tN "UNASSIGNED_STACK" Bundle.steD ∈ lw_tbl := List.mem_of_getElem? (i := 581) (by decide +kernel)
theorem su_l4 : Cond.laysStatic Bundle.tN "SUPPRESSED_SENTINEL" Bundle.listD ∈ lw_tbl := List.mem_of_getElem? (i := 583) (by decide +kernel)
theorem su_l5 : Cond.laysStatic "java/lang/Integer" "DigitOnes" "[B" ∈ lw_tbl := List.mem_of_getElem? (i := 1176) (by decide +kernel)
theorem su_l6 : Cond.laysStatic "java/lang/Integer" "DigitTens" "[B" ∈ lw_tbl := List.mem_of_getElem? (i := 1178) (by decide +kernel)
theorem su_n1 : Cond.initialized "java/lang/String" ∈ lw_tbl := List.mem_of_getElem? (i := 42) (by decide +kernel)
theorem su_n2 : Cond.initialized "jdk/internal/util/Preconditions" ∈ lw_tbl := List.mem_of_getElem? (i := 44) (by decide +kernel)
theorem su_n3 : Cond.initialized Bundle.tN ∈ lw_tbl := List.mem_of_getElem? (i := 53) (by decide +kernel)
theorem su_n4 : Cond.initialized "java/lang/Integer" ∈ lw_tbl := List.mem_of_getElem? (i := 52) (by decide +kernel)
theorem su_g1 : Cond.eq (.static "java/lang/String" "COMPACT_STRINGS" "Z") (.int 1) ∈ st_ws := List.mem_of_getElem? (i := 4) (by decide +kernel)
theorem su_g2 : Cond.isRef (.static "jdk/internal/util/Preconditions" "SIOOBE_FORMATTER" "Ljava/util/function/BiFunction;") ∈ st_ws := List.mem_of_getElem? (i := 5) (by decide +kernel)
theorem su_g3 : Cond.isRef (.static Bundle.tN "UNASSIGNED_STACK" Bundle.steD) ∈ st_ws := List.mem_of_getElem? (i := 9) (by decide +kernel)
theorem su_g4 : Cond.isRef (.static Bundle.tN "SUPPRESSED_SENTINEL" Bundle.listD) ∈ st_ws := List.mem_of_getElem? (i := 10) (by decide +kernel)
theorem su_da1 : Cond.arrayOf (.static "java/lang/Integer" "DigitOnes" "[B") .byte ∈ st_ws := List.mem_of_getElem? (i := 12) (by decide +kernel)
theorem su_db1 : Cond.eq (.length (.static "java/lang/Integer" "DigitOnes" "[B")) (.int (Int32.ofNat 100)) ∈ st_ws := List.mem_of_getElem? (i := 13) (by decide +kernel)
def su_de1 (j : Nat) : Cond := Cond.eq (.elem (.static "java/lang/Integer" "DigitOnes" "[B") (.int (Int32.ofNat j))) (.int (nI (j % 10 + 48)))
theorem su_df1 : (st_ws.drop 14).take 100 = (List.range 100).map su_de1 := by decide +kernel
theorem su_dg1 {j : Nat} (hj : j < 100) : su_de1 j ∈ st_ws := by
  have h1 : su_de1 j ∈ (List.range 100).map su_de1 := List.mem_map.mpr ⟨j, List.mem_range.mpr hj, rfl⟩
  rw [← su_df1] at h1
  exact List.mem_of_mem_drop (List.mem_of_mem_take h1)
theorem su_D1 {A : Nat → Prop} (hts : ∀ w ∈ lw_tbl, w.before args s = true) (hw : ∀ w ∈ st_ws, w.before args s = true) (hA : ∀ a : Nat, a < s.heap.size → ¬ A a) : ∃ t : Nat, va_Z "java/lang/Integer" "DigitOnes" "[B" (.ref t) A s s.heap ∧ va_T .byte t 100 (fun j => .int (nI (j % 10 + 48))) A s s.heap := by
  obtain ⟨t, h1, h2⟩ := va_Tof (N := 100) (f := fun j => .int (nI (j % 10 + 48))) (A := A) (by decide) (hw _ su_da1) (va_eqt (hw _ su_db1)) (fun j hj => va_eqt (hw _ (su_dg1 hj))) hA
  exact ⟨t, va_Zref (hts _ su_l5) (hts _ su_n4) h1 hA, h2⟩
theorem su_da2 : Cond.arrayOf (.static "java/lang/Integer" "DigitTens" "[B") .byte ∈ st_ws := List.mem_of_getElem? (i := 115) (by decide +kernel)
theorem su_db2 : Cond.eq (.length (.static "java/lang/Integer" "DigitTens" "[B")) (.int (Int32.ofNat 100)) ∈ st_ws := List.mem_of_getElem? (i := 116) (by decide +kernel)
def su_de2 (j : Nat) : Cond := Cond.eq (.elem (.static "java/lang/Integer" "DigitTens" "[B") (.int (Int32.ofNat j))) (.int (nI (j / 10 + 48)))
theorem su_df2 : (st_ws.drop 117).take 100 = (List.range 100).map su_de2 := by decide +kernel
theorem su_dg2 {j : Nat} (hj : j < 100) : su_de2 j ∈ st_ws := by
  have h1 : su_de2 j ∈ (List.range 100).map su_de2 := List.mem_map.mpr ⟨j, List.mem_range.mpr hj, rfl⟩
  rw [← su_df2] at h1
  exact List.mem_of_mem_drop (List.mem_of_mem_take h1)
theorem su_D2 {A : Nat → Prop} (hts : ∀ w ∈ lw_tbl, w.before args s = true) (hw : ∀ w ∈ st_ws, w.before args s = true) (hA : ∀ a : Nat, a < s.heap.size → ¬ A a) : ∃ t : Nat, va_Z "java/lang/Integer" "DigitTens" "[B" (.ref t) A s s.heap ∧ va_T .byte t 100 (fun j => .int (nI (j / 10 + 48))) A s s.heap := by
  obtain ⟨t, h1, h2⟩ := va_Tof (N := 100) (f := fun j => .int (nI (j / 10 + 48))) (A := A) (by decide) (hw _ su_da2) (va_eqt (hw _ su_db2)) (fun j hj => va_eqt (hw _ (su_dg2 hj))) hA
  exact ⟨t, va_Zref (hts _ su_l6) (hts _ su_n4) h1 hA, h2⟩
theorem su_nw {w : Cond} (h : mm_nw w = true) : w.onTables = true := by
  cases w <;> first | rfl | exact absurd h (by simp [mm_nw])
theorem su_E {b L : Nat} {xs : Nat → Int32} (hts : ∀ w ∈ lw_tbl, w.before args s = true) (hgv : (Jvm.Cond.and given_1 narrow_1).before args s = true) (hX : va_X b L xs s s.heap) (hb : b < s.heap.size) (hL : L ≤ 260) : ∃ X : mm_X, X.1 = (s.heap.size, b, L, xs) ∧ mm_E X s s.heap := by
  have hw : ∀ w ∈ st_ws, w.before args s = true := flat_of_before _ hgv
  obtain ⟨G, hG⟩ := su_K2 hts
  obtain ⟨dA, hdA, hAA⟩ := su_A hts
  have hA : ∀ a : Nat, a < s.heap.size → ¬ s.heap.size ≤ a := fun a h => Nat.not_le.mpr h
  obtain ⟨adK, adV, hS⟩ := st_S (A := fun q => s.heap.size ≤ q) (fun i j hi hj => st_w5 hi hj) hw hA
  obtain ⟨t1, hd1⟩ := su_D1 (A := fun q => s.heap.size ≤ q) hts hw hA
  obtain ⟨t2, hd2⟩ := su_D2 (A := fun q => s.heap.size ≤ q) hts hw hA
  have hF : ∃ adF : Nat, va_Z "jdk/internal/util/Preconditions" "SIOOBE_FORMATTER" "Ljava/util/function/BiFunction;" .null (fun q => s.heap.size ≤ q) s s.heap ∨ va_Z "jdk/internal/util/Preconditions" "SIOOBE_FORMATTER" "Ljava/util/function/BiFunction;" (.ref adF) (fun q => s.heap.size ≤ q) s s.heap := by
    rcases va_Zqof (A := fun q => s.heap.size ≤ q) (hts _ su_l2) (hts _ su_n2) (hw _ su_g2) hA with h | ⟨t, h⟩
    · exact ⟨0, Or.inl h⟩
    · exact ⟨t, Or.inr h⟩
  obtain ⟨adF, hF⟩ := hF
  exact ⟨((s.heap.size, b, L, xs), (adK, adV, fun a => if a = 0 then adF else if a = 1 then t1 else t2), (G, dA)), rfl, ⟨hb, Nat.le_trans hL (by decide), Nat.le_refl _⟩, hX, ⟨hG, fun k q hk => hdA q (List.mem_of_getElem? hk)⟩, fun i hi => (hS i hi).2, su_R hts (fun i hi => (hS i hi).1), ⟨vx_Zqof (hts _ su_l3) (hts _ su_n3) (hw _ su_g3) hA, vx_Zqof (hts _ su_l4) (hts _ su_n3) (hw _ su_g4) hA⟩, fun w hw9 hg => va_Nw.of (su_nw hg) (hts w hw9), va_AO.of (hts _ su_w_obj), ⟨va_Zof (hts _ su_l1) (hts _ su_n1) (va_eqi (hw _ su_g1)) hA, hF, hd1, hd2⟩, hAA, fun x hx => va_Nw.of rfl (hts _ hx)⟩
end PRS

section PRT
/-! THE CLAIM OUT OF ONE WALK OF THE LAW'S BODY. Your part is whole_start (and what it stands on); all else here is the same for every law, but numbers. -/
def R_law : String := "BatchWarehouseLaw"
def lw_P (b : Addr) (xs : List Int32) (args : Array Value) (s : State) : Prop := args = #[.ref b] ∧ s.IntsAt b xs ∧ xs.length ≤ 260 ∧ (Jvm.Cond.and given_1 narrow_1).before args s = true
def lw_Q (_ : Array Value) (s : State) (o : Outcome) (t : State) : Prop := o = .returned (some (.int 1)) ∧ Framed s o t [] 600086 7301442
def lw_Z (below : List Frame) (a : Array Value) (s : State) : State → Prop := fun t => ∃ o, t.status = .running ∧ Ended t below o ∧ lw_Q a s o t
/-- the law's own end, with 1 on the stack, nothing written that was there before, its room as the claim has it -/
theorem lw_ret {p : Program} {l : Launch} {e : Env} {s : State} {m : MethodId} {below : List Frame} {meth : Method} {c : Code} {b : Nat} (hx : p.tables.exec = Jvm.exec) (hb : c.code = code) (hr : meth.sig.returnType = ret) (hlocks : meth.locks = false) {pc : Nat} {H : Heap} {ls : Array Slot} (hdg : decode code pc = .ok (.ireturn, 1)) : W p l e room_1 s m #[Value.ref b] below meth c H [] 600086 7301442 (lw_Z below #[Value.ref b] s) (F0 m pc ls [.int 1]) := by
  intro T hT X
  obtain ⟨fs, hret, hrun, hended, hW, hframe⟩ := X.leave (v := some (.int 1)) (hlocks := hlocks) (fun h => by rw [hr] at h; cases h)
  have hmeth' : T.vm.method? m = some meth := X.method'
  refine ⟨T.setFrames fs, ?_, .returned (some (.int 1)), hrun, hended, rfl, ⟨_, rfl⟩, hW, hframe⟩
  jvm_step X.here [X.here.top, hx, hb, hdg, hmeth', hr, ret, narrow_b1]
  (try refine ⟨rfl, ?_⟩); (try refine ⟨rfl, ?_⟩)
  first | (intro acts; rw [hret _ acts rfl rfl rfl]) | rw [hret _ _ rfl rfl rfl]
  exact Steps.refl _
/-- what holds at the law's entry: the machine, the code, the tables' words (any of lw_tbl by 'hts w (by decide +kernel)'), the script of L ints xs at the cell b, what the Statement gives of the start (any of its parts by flat_of_before) -/
def lw_At (p : Program) (s : State) (m : MethodId) (meth : Method) (c : Code) (b L : Nat) (xs : Nat → Int32) : Prop :=
  p.tables.exec = Jvm.exec ∧ c.code = code ∧ meth.sig.returnType = ret ∧ c.maxLocals = 14 ∧ s.vm.findClass R_law = some m.cls ∧ (∀ w ∈ lw_tbl, w.before #[Value.ref b] s = true) ∧ va_X b L xs s s.heap ∧ b < s.heap.size ∧ meth.locks = false ∧ (Jvm.Cond.and given_1 narrow_1).before #[Value.ref b] s = true
/-- YOUR PART: from the entry, for every script of at most 260 ints, the law comes to its end with true ('hflags': the launch's flags, for a law that throws: no stack traces) -/
theorem whole_start {p : Program} {e : Env} {s : State} {m : MethodId} {below : List Frame} {meth : Method} {c : Code} (l : Launch) (hflags : l.flags = flags0) {b L : Nat} {xs : Nat → Int32} (hL : L ≤ 260) (C0 : lw_At p s m meth c b L xs) : W p l e room_1 s m #[Value.ref b] below meth c s.heap [] 0 0 (lw_Z below #[Value.ref b] s) (entryFrame m ([Value.ref b] : List Value).toArray 14) := by
  obtain ⟨q1, q2, q3, q4, q5, q6, q7, q8, q9, q10⟩ := C0
  obtain ⟨X, hX, hE⟩ := su_E q6 q10 q7 q8 hL
  have xb : mx_base X = s.heap.size := congrArg (·.1) hX
  have xc : mx_b X = b := congrArg (·.2.1) hX
  have xL : mx_L X = L := congrArg (·.2.2.1) hX
  have xx : mx_xs X = xs := congrArg (·.2.2.2) hX
  obtain ⟨h', k0, n2, n3⟩ := lw_law (J := fun _ _ => 0) (D := fun _ _ => 0) (I := (fun o k => if o = 400 then (if k = 0 then nI L else xs (k - 1)) else 0)) (fun o k ho => if_neg (Nat.ne_of_lt ho))
  obtain ⟨-, -, k3⟩ := k0 _ rfl rfl
  have hcv : ([Value.ref 400].map (mx_cv X)) = [Value.ref b] := by
    show [Value.ref (mx_ad X 400)] = _
    rw [show mx_ad X 400 = b by unfold mx_ad; rw [if_neg (show ¬ 400 < mm_NN by decide), if_pos (show 400 = mm_NN from rfl)]; exact xc]
  have hen := lg_entry_eq m [Value.ref b] 14
  have hl0 := lv_entry [Value.ref b] (n := 14) (Nat.le_of_ble_eq_true rfl)
  rw [hen]
  generalize (lg_sl [Value.ref b] ++ List.replicate (14 - (lg_sl [Value.ref b]).length) Slot.unset).toArray = ls at hl0 ⊢
  have hLH : mm_LH X ls 14 [some (.ref 400), none, none, none, none, none, none, none, none, none, none, none, none, none] := by
    refine ⟨hl0.1, hl0.2.1, fun i v hv => ?_⟩
    have h9 := mm_L0_in (X := X) (as := [.ref 400]) (n := 14) hv
    rw [hcv] at h9
    exact hl0.2.2 _ h9
  have hst : l.stackTraces = false := by
    show (!l.flags.contains noTraceFlag) = false
    rw [hflags]
    decide +kernel
  have hPr : mm_P X (ez_t (fun _ _ => 0) (fun _ _ => 0) (fun o k => if o = 400 then (if k = 0 then nI L else xs (k - 1)) else 0) ez_0) s.heap := by
    refine ⟨fun k q hk => ?_, Nat.zero_le _, ⟨?_, fun j hj => ?_⟩, fun o _ ho k => ⟨if_neg (Nat.ne_of_lt ho), rfl, rfl, rfl⟩⟩
    · have hz : ([] : va_W)[k]? = some q := hk
      exact absurd hz (by simp)
    · rw [xL]
      show (if 400 = 400 then (if 0 = 0 then nI L else xs (0 - 1)) else 0) = nI L
      rw [if_pos rfl, if_pos rfl]
    · rw [xx]
      show (if 400 = 400 then (if j + 1 = 0 then nI L else xs (j + 1 - 1)) else 0) = xs j
      rw [if_pos rfl, if_neg (Nat.succ_ne_zero j)]
      rfl
  have z := k3 X p l e room_1 s m #[Value.ref b] below meth c ⟨hst, q1, q2, q3, q4, q5, q9, fun w hw => q6 w (List.mem_filter.mp hw).1, hE, Or.inl rfl, fun hn => absurd hn (by decide), by decide, by decide⟩ 0 0 (by omega) (Nat.zero_le _) (Nat.zero_le _)
    (show mh_c h' - 0 ≤ 600086 by omega) (show mh_w h' - 0 ≤ 7301442 by omega) s.heap [] ls hPr va_S.rf hLH
  intro T hT X0
  obtain ⟨t, a1, o, b1, b2, b3⟩ := z T hT X0
  refine ⟨t, a1, o, b1, b2, ?_⟩
  rcases b3 with ⟨⟨⟨v, hv, ho⟩, -, -⟩, Ls, ⟨hr, hW, hs⟩, hfr⟩ | ⟨q, -, E, ce, Ls, ⟨hv, -⟩, -⟩
  · have hv9 : (Sum.inl (some (Value.int 1)) : Option Value ⊕ String) = .inl v := hv
    cases hv9
    have hd : s.sameButNew ({ t with vm := s.vm } : State) [] 600086 7301442 := (State.sameButNew.drop_fresh (L := []) hs (fun x hx => by rw [← xb]; exact hfr x hx)).mono (show mh_c h' - 0 ≤ 600086 by omega) (show mh_w h' - 0 ≤ 7301442 by omega)
    exact ⟨ho, hr, hW, hd⟩
  · have hv9 : (Sum.inl (some (Value.int 1)) : Option Value ⊕ String) = .inr E := hv
    cases hv9
end PRT

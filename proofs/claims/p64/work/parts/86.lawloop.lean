section MMLAW
/-! the law's loop walked (gen86.py, dec.py) -/
section
variable {τ : Type} {F G F' G' F'' : mm_H → Prop} {M N : mm_M} {pc pc' : Nat} {L : List (Option Value)} {st : List Value} {h : mm_H} {o : Option τ} {lf : τ → mm_O} {σ : Type} {oN : Option σ} {lN : σ → mm_O} {kN : σ → Option τ} {As : List Value} {q ci idx n : Nat}
/-- a call of what throws nothing, or where nothing is told then -/
theorem me_callVT (d : decode (my_b M) pc = .ok (.invokevirtual idx, 3)) (hp : pc + 3 = pc') (hm : mm_mV N n) (hln : As.length = n) (hk : mm_lk (my_y M).cls idx N) (hq : F h → mm_kk h q = (0, ci)) (hcn : mm_cn ci = some (my_y N).cls) (hn : F h → q < mh_n h)
    (hfr : my_f N + 1 ≤ my_f M ∧ 8 + (my_L N + 11) + my_w N ≤ my_w M) (hcat : (st.map fun v => v.category).sum ≤ 8) (hF' : F h → F' h) (hR : mm_R2 F' G' N (.ref q :: As) h oN lN)
    (hv : ∀ x, oN = some x → (∃ v h1, lN x = (.inl v, h1) ∧ (G' h1 → F'' h1) ∧ mm_E2 F'' G M pc' L (v.toList ++ st) h1 (kN x) lf) ∨ kN x = none) : mm_E2 F G M pc L (As.reverse ++ .ref q :: st) h (oN.bind kN) lf := by
  cases oN with
  | none => exact mm_none
  | some x =>
    rcases hv x rfl with h9 | h9
    · exact me_callV d hp hm hln hk hq hcn hn hfr hcat hF' hR (fun y hy => by cases hy; exact Or.inl h9)
    · rw [Option.bind_some, h9]
      exact mm_none
theorem me_callST (d : decode (my_b M) pc = .ok (.invokestatic idx, 3)) (hp : pc + 3 = pc') (hm : mm_mS N n) (hln : As.length = n) (hk : mm_lk (my_y M).cls idx N)
    (hfr : my_f N + 1 ≤ my_f M ∧ 8 + (my_L N + 11) + my_w N ≤ my_w M) (hcat : (st.map fun v => v.category).sum ≤ 8) (hF' : F h → F' h) (hR : mm_R2 F' G' N As h oN lN)
    (hv : ∀ x, oN = some x → (∃ v h1, lN x = (.inl v, h1) ∧ (G' h1 → F'' h1) ∧ mm_E2 F'' G M pc' L (v.toList ++ st) h1 (kN x) lf) ∨ kN x = none) : mm_E2 F G M pc L (As.reverse ++ st) h (oN.bind kN) lf := by
  cases oN with
  | none => exact mm_none
  | some x =>
    rcases hv x rfl with h9 | h9
    · exact me_callS d hp hm hln hk hfr hcat hF' hR (fun y hy => by cases hy; exact Or.inl h9)
    · rw [Option.bind_some, h9]
      exact mm_none
end
def gL_law_L599 (o : Nat) (u69 : Int32) (u70 : Int32) (u71 : Int32) (k : Int32 → mm_H → Option ((Bool ⊕ String) × mm_H)) : Nat → Int32 → Int32 → mm_H → Option ((Bool ⊕ String) × mm_H)
  | 0, _, _, _ => none
  | n + 1, w72, w73, h74 =>
    if w73 < (mh_I h74 o 3) then
    if mm_ibd w73 20 = true then
    if mm_ibd u71 10 = true then
    if mm_ibd w73 20 = true then
    if mm_ibd w73 20 = true then
    (some (ms_I h74 (o + 1) (Int32.toNatClampNeg (w73)) (((mh_I h74 (o + 1) (Int32.toNatClampNeg (w73))) - (mh_I h74 (o + 3 + (Int32.toNatClampNeg (u71))) (Int32.toNatClampNeg (w73))))))).bind (fun (h82 : mm_H) =>
    if mm_ibd u71 10 = true then
    if mm_ibd w73 20 = true then
    (gX10_unitCost w73 h82).bind (fun (x85 : ((Int32 ⊕ String) × mm_H)) => match x85 with
    | (.inl v87, h88) =>
    (some ((w72 + ((mh_I h82 (o + 3 + (Int32.toNatClampNeg (u71))) (Int32.toNatClampNeg (w73))) * v87)))).bind (fun (x90 : Int32) =>
    (some (w73 + 1)).bind (fun (x91 : Int32) =>
    gL_law_L599 o u69 u70 u71 k n x90 x91 h88))
    | (.inr E89, h88) => none) else none else none) else none else none else none else none
    else
    k w72 h74
def gL_law_L500 (o : Nat) (u128 : Int32) (u129 : Int32) (u130 : Int32) (u131 : Int32) (k : Int32 → mm_H → Option ((Bool ⊕ String) × mm_H)) : Nat → Int32 → mm_H → Option ((Bool ⊕ String) × mm_H)
  | 0, _, _ => none
  | n + 1, w132, h133 =>
    if w132 < (mh_I h133 o 4) then
    if mm_ibd w132 10 = true then
    (gX10_isOpen w132 h133).bind (fun (x138 : ((Bool ⊕ String) × mm_H)) => match x138 with
    | (.inl v140, h141) =>
    mm_jn (fun (y143 : Int32) (y144 : Int32) =>
    if mm_ibd y144 20 = true then
    (some (ms_I h141 (o + 3 + (Int32.toNatClampNeg (w132))) (Int32.toNatClampNeg (y144)) y143)).bind (fun (h148 : mm_H) =>
    (some (w132 + 1)).bind (fun (x149 : Int32) =>
    gL_law_L500 o u128 u129 u130 u131 k n x149 h148)) else none) (fun (j146 : Int32 → Int32 → Option ((Bool ⊕ String) × mm_H)) =>
    if v140 = true then
    j146 0 u131
    else
    if mm_ibd w132 10 = true then
    if mm_ibd u131 20 = true then
    j146 ((mh_I h141 (o + 3 + (Int32.toNatClampNeg (w132))) (Int32.toNatClampNeg (u131)))) u131 else none else none)
    | (.inr E142, h141) => none) else none
    else
    k u130 h133
def gL_law_L449 (o : Nat) (u104 : Int32) (u105 : Int32) (k : Int32 → mm_H → Option ((Bool ⊕ String) × mm_H)) : Nat → Int32 → Int32 → mm_H → Option ((Bool ⊕ String) × mm_H)
  | 0, _, _, _ => none
  | n + 1, w106, w107, h108 =>
    if w107 < (mh_I h108 o 3) then
    (gX10_expiryDay w107 h108).bind (fun (x112 : ((Int32 ⊕ String) × mm_H)) => match x112 with
    | (.inl v114, h115) =>
    (gX10_day h115).bind (fun (x117 : Int32) =>
    mm_jn (fun (y119 : Int32) (h120 : mm_H) =>
    (some (w107 + 1)).bind (fun (x122 : Int32) =>
    gL_law_L449 o u104 u105 k n y119 x122 h120)) (fun (j121 : Int32 → mm_H → Option ((Bool ⊕ String) × mm_H)) =>
    if v114 < x117 then
    if mm_ibd w107 20 = true then
    (some ((w106 + (mh_I h115 (o + 1) (Int32.toNatClampNeg (w107)))))).bind (fun (x125 : Int32) =>
    if mm_ibd w107 20 = true then
    (some (ms_I h115 (o + 1) (Int32.toNatClampNeg (w107)) 0)).bind (fun (h127 : mm_H) =>
    gL_law_L500 o u104 u105 x125 w107 j121 mm_F 0 h127) else none) else none
    else
    j121 w106 h115))
    | (.inr E116, h115) => none)
    else
    k w106 h108
def gL_law_L389 (o : Nat) (u193 : Int32) (u194 : Int32) (u195 : Int32) (u196 : Int32) (k : mm_H → Option ((Bool ⊕ String) × mm_H)) : Nat → Int32 → mm_H → Option ((Bool ⊕ String) × mm_H)
  | 0, _, _ => none
  | n + 1, w197, h198 =>
    if w197 < (mh_I h198 o 3) then
    if mm_ibd u196 10 = true then
    if mm_ibd w197 20 = true then
    mm_jn (fun (h203 : mm_H) =>
    (some (w197 + 1)).bind (fun (x205 : Int32) =>
    gL_law_L389 o u193 u194 u195 u196 k n x205 h203)) (fun (j204 : mm_H → Option ((Bool ⊕ String) × mm_H)) =>
    if 0 < (mh_I h198 (o + 3 + (Int32.toNatClampNeg (u196))) (Int32.toNatClampNeg (w197))) then
    (gX10_expiryDay w197 h198).bind (fun (x207 : ((Int32 ⊕ String) × mm_H)) => match x207 with
    | (.inl v209, h210) =>
    if v209 < u195 then
    some (.inl false, h210)
    else
    j204 h210
    | (.inr E211, h210) => none)
    else
    j204 h198) else none else none
    else
    k h198
def gL_law_L321 (o : Nat) (u213 : Int32) (u214 : Int32) (u215 : Int32) (u216 : Int32) (u217 : Int32) (u218 : Int32) (k : mm_H → Option ((Bool ⊕ String) × mm_H)) : Nat → Int32 → mm_H → Option ((Bool ⊕ String) × mm_H)
  | 0, _, _ => none
  | n + 1, w219, h220 =>
    if w219 < (mh_I h220 o 3) then
    if mm_ibd u218 10 = true then
    if mm_ibd w219 20 = true then
    (some (ms_I h220 (o + 3 + (Int32.toNatClampNeg (u218))) (Int32.toNatClampNeg (w219)) 0)).bind (fun (h225 : mm_H) =>
    (some (w219 + 1)).bind (fun (x226 : Int32) =>
    gL_law_L321 o u213 u214 u215 u216 u217 u218 k n x226 h225)) else none else none
    else
    k h220
def gL_law_L61 (o : Nat) (u1 : Int32) : Nat → Int32 → mm_H → Option ((Bool ⊕ String) × mm_H)
  | 0, _, _ => none
  | n + 1, w2, h3 =>
    if w2 < 24 then
    (gL_pick ((17 + w2)) 268435456 h3).bind (fun (x5 : Int32) =>
    (gL_act x5 h3).bind (fun (x7 : ((Unit ⊕ String) × mm_H)) => match x7 with
    | (.inl _, h10) =>
    (gX11_read o h10).bind (fun (x12 : ((Unit ⊕ String) × mm_H)) => match x12 with
    | (.inl _, h15) =>
    (gX11_agrees o h15).bind (fun (x17 : ((Bool ⊕ String) × mm_H)) => match x17 with
    | (.inl v19, h20) =>
    if v19 = true then
    if u1 = 0 then none else
    (some (((x5 / 16) - (x5 / 16) / u1 * u1))).bind (fun (x24 : Int32) =>
    (some ((1 + ((x5 / 64) - (x5 / 64) / 12 * 12)))).bind (fun (x25 : Int32) =>
    (gX10_day h20).bind (fun (x26 : Int32) =>
    (some ((x26 + ((x5 / 1024) - (x5 / 1024) / 8 * 8)))).bind (fun (x28 : Int32) =>
    (gX10_reservationCount h20).bind (fun (x29 : Int32) =>
    mm_jn (fun (y31 : Int32) =>
    mm_jn (fun (h33 : mm_H) =>
    (some (w2 + 1)).bind (fun (x35 : Int32) =>
    gL_law_L61 o u1 n x35 h33)) (fun (j34 : mm_H → Option ((Bool ⊕ String) × mm_H)) =>
    mm_jn (fun (h36 : mm_H) =>
    mm_jn (fun (h38 : mm_H) =>
    if (x5 - x5 / 4 * 4) = 2 then
    mm_jn (fun (y92 : Int32) (h93 : mm_H) =>
    (gX10_writeOffExpired h93).bind (fun (x95 : (Int32 × mm_H)) =>
    if x95.1 = y92 then
    (gX11_agrees o x95.2).bind (fun (x98 : ((Bool ⊕ String) × mm_H)) => match x98 with
    | (.inl v100, h101) =>
    if v100 = true then
    j34 h101
    else
    some (.inl false, h101)
    | (.inr E102, h101) => none)
    else
    some (.inl false, x95.2))) (fun (j94 : Int32 → mm_H → Option ((Bool ⊕ String) × mm_H)) =>
    gL_law_L449 o u1 w2 j94 mm_F 0 0 h38)
    else
    if y31 < 0 then
    j34 h38
    else
    (gX10_whyNotShipped y31 h38).bind (fun (x42 : ((Int32 ⊕ String) × mm_H)) => match x42 with
    | (.inl v44, h45) =>
    if v44 = 0 then
    mm_jn (fun (y48 : Int32) (h49 : mm_H) =>
    (gX10_ship y31 h49).bind (fun (x51 : ((Int32 ⊕ String) × mm_H)) => match x51 with
    | (.inl v53, h54) =>
    if v53 = y48 then
    (gX10_isOpen y31 h54).bind (fun (x57 : ((Bool ⊕ String) × mm_H)) => match x57 with
    | (.inl v59, h60) =>
    if v59 = true then
    some (.inl false, h60)
    else
    (gX11_agrees o h60).bind (fun (x63 : ((Bool ⊕ String) × mm_H)) => match x63 with
    | (.inl v65, h66) =>
    if v65 = true then
    j34 h66
    else
    some (.inl false, h66)
    | (.inr E67, h66) => none)
    | (.inr E61, h60) => none)
    else
    some (.inl false, h54)
    | (.inr E55, h54) => none)) (fun (j50 : Int32 → mm_H → Option ((Bool ⊕ String) × mm_H)) =>
    gL_law_L599 o u1 w2 y31 j50 mm_F 0 0 h45)
    else
    j34 h45
    | (.inr E46, h45) => none)) (fun (j39 : mm_H → Option ((Bool ⊕ String) × mm_H)) =>
    if (x5 - x5 / 4 * 4) = 1 then
    (gX10_reservationCount h36).bind (fun (x154 : Int32) =>
    if x154 < 10 then
    (gX11_free o x24 x28 h36).bind (fun (x157 : ((Int32 ⊕ String) × mm_H)) => match x157 with
    | (.inl v159, h160) =>
    if v159 < x25 then
    j39 h160
    else
    (some ((mh_I h160 o 4))).bind (fun (x163 : Int32) =>
    (some (ms_I h160 o 4 (((mh_I h160 o 4) + 1)))).bind (fun (h164 : mm_H) =>
    (gX10_reserve x24 x25 x28 h164).bind (fun (x165 : ((Int32 ⊕ String) × mm_H)) => match x165 with
    | (.inl v167, h168) =>
    if v167 = x163 then
    mm_jn (fun (h171 : mm_H) =>
    (gX11_allocate o x163 x24 x25 x28 h171).bind (fun (x173 : ((Int32 ⊕ String) × mm_H)) => match x173 with
    | (.inl v175, h176) =>
    if v175 = x25 then
    (gX11_agrees o h176).bind (fun (x179 : ((Bool ⊕ String) × mm_H)) => match x179 with
    | (.inl v181, h182) =>
    if v181 = true then
    (gX10_missing x163 h182).bind (fun (x185 : ((Int32 ⊕ String) × mm_H)) => match x185 with
    | (.inl v187, h188) =>
    if v187 = 0 then
    mm_jn (fun (h191 : mm_H) =>
    j34 h191) (fun (j192 : mm_H → Option ((Bool ⊕ String) × mm_H)) =>
    gL_law_L389 o u1 w2 x28 x163 j192 mm_F 0 h188)
    else
    some (.inl false, h188)
    | (.inr E189, h188) => none)
    else
    some (.inl false, h182)
    | (.inr E183, h182) => none)
    else
    some (.inl false, h176)
    | (.inr E177, h176) => none)) (fun (j172 : mm_H → Option ((Bool ⊕ String) × mm_H)) =>
    gL_law_L321 o u1 w2 x24 x25 x28 x163 j172 mm_F 0 h168)
    else
    some (.inl false, h168)
    | (.inr E169, h168) => none)))
    | (.inr E161, h160) => none)
    else
    j39 h36)
    else
    j39 h36)) (fun (j37 : mm_H → Option ((Bool ⊕ String) × mm_H)) =>
    if (x5 - x5 / 4 * 4) = 0 then
    (gX10_day h20).bind (fun (x228 : Int32) =>
    (gX11_free o x24 x228 h20).bind (fun (x230 : ((Int32 ⊕ String) × mm_H)) => match x230 with
    | (.inl v232, h233) =>
    if v232 < x25 then
    j37 h233
    else
    (gX10_costOfIssue x24 x25 h233).bind (fun (x236 : ((Int32 ⊕ String) × mm_H)) => match x236 with
    | (.inl v238, h239) =>
    if v238 < 0 then
    some (.inl false, h239)
    else
    (gX10_costOfIssue x24 x25 h239).bind (fun (x242 : ((Int32 ⊕ String) × mm_H)) => match x242 with
    | (.inl v244, h245) =>
    (gX11_issue o x24 x25 h245).bind (fun (x247 : ((Int32 ⊕ String) × mm_H)) => match x247 with
    | (.inl v249, h250) =>
    (gX10_issue x24 x25 h250).bind (fun (x252 : ((Int32 ⊕ String) × mm_H)) => match x252 with
    | (.inl v254, h255) =>
    if v254 = v249 then
    if v244 = v249 then
    (gX11_agrees o h255).bind (fun (x259 : ((Bool ⊕ String) × mm_H)) => match x259 with
    | (.inl v261, h262) =>
    if v261 = true then
    j34 h262
    else
    some (.inl false, h262)
    | (.inr E263, h262) => none)
    else
    some (.inl false, h255)
    else
    some (.inl false, h255)
    | (.inr E256, h255) => none)
    | (.inr E251, h250) => none)
    | (.inr E246, h245) => none)
    | (.inr E240, h239) => none)
    | (.inr E234, h233) => none))
    else
    j37 h20))) (fun (j32 : Int32 → Option ((Bool ⊕ String) × mm_H)) =>
    if x29 = 0 then
    j32 (-1)
    else
    (gX10_reservationCount h20).bind (fun (x266 : Int32) =>
    if x266 = 0 then none else
    j32 (((x5 / 32768) - (x5 / 32768) / x266 * x266)))))))))
    else
    some (.inl false, h20)
    | (.inr E21, h20) => none)
    | (.inr E16, h15) => none)
    | (.inr E11, h10) => none))
    else
    some (.inl true, h3)
theorem rL_law_L599 {q : mm_q} (o : Nat) (u69 : Int32) (u70 : Int32) (u71 : Int32) (k : Int32 → mm_H → Option ((Bool ⊕ String) × mm_H))  (ho : mm_St q o) (kp : ∀ (y75 : Int32) (h76 : mm_H), mm_E2 (mm_Sq q) (mm_Sq q) mL_law 660 [some (.ref 400), some (.ref 0), some (.int u69), none, some (.ref o), some (.int u70), none, none, none, none, some (.int u71), some (.int y75), none, none] [] h76 (k y75 h76) lf_zt) : ∀ (n : Nat) (w72 : Int32) (w73 : Int32) (h74 : mm_H), mm_E2 (mm_Sq q) (mm_Sq q) mL_law 599 [some (.ref 400), some (.ref 0), some (.int u69), none, some (.ref o), some (.int u70), none, none, none, none, some (.int u71), some (.int w72), some (.int w73), none] [] h74 (gL_law_L599 o u69 u70 u71 k  n w72 w73 h74) lf_zt := by
  intro n
  induction n with
  | zero =>
    intro w72 w73 h74
    exact mm_none
  | succ n ih =>
    intro w72 w73 h74
    rw [gL_law_L599]
    refine me_iload (pc' := 601) (i := 12) dL_law_599 rfl rfl ?_
    refine me_aload (pc' := 603) (i := 4) dL_law_601 rfl rfl ?_
    refine me_getI (pc' := 606) dL_law_603 rfl fkL_159 (mm_St_ls ho) (mm_St_lsn ho) rfl ?_
    refine me_icmp_ge (pc' := 609) (tgt := 660) dL_law_606 (by decide) rfl (fun c77 => ?_) (fun c77 => ?_)
    · exact mm_maskB [true, true, true, false, true, true, false, false, false, false, true, true, false, false] (kp w72 h74)
    · refine me_aload (pc' := 611) (i := 4) dL_law_609 rfl rfl ?_
      refine me_getR (pc' := 614) (q' := (o + 1)) dL_law_611 rfl fkL_175 (mm_St_ls ho) (mm_St_lsn ho) rfl (mm_St_1 ho) ?_
      refine me_iload (pc' := 616) (i := 12) dL_law_614 rfl rfl ?_
      refine me_dup2 (pc' := 617) dL_law_616 rfl rfl rfl ?_
      refine mm_guard (fun c78 => ?_)
      refine me_iald (pc' := 618) dL_law_617 rfl (mm_St_lq ho) (mm_St_lqn ho) (mm_ibd_of c78) ?_
      refine me_aload (pc' := 620) (i := 4) dL_law_618 rfl rfl ?_
      refine me_getR (pc' := 623) (q' := (o + 2)) dL_law_620 rfl fkL_162 (mm_St_ls ho) (mm_St_lsn ho) rfl (mm_St_2 ho) ?_
      refine me_iload (pc' := 625) (i := 10) dL_law_623 rfl rfl ?_
      refine mm_guard (fun c79 => ?_)
      refine me_aaldA (pc' := 626) (q' := (o + 3 + (Int32.toNatClampNeg (u71)))) dL_law_625 rfl (mm_St_lp ho) (mm_St_lpn ho) (mm_ibd_of c79) (mm_St_r (mm_ibd_of c79) ho) ?_
      refine me_iload (pc' := 628) (i := 12) dL_law_626 rfl rfl ?_
      refine mm_guard (fun c80 => ?_)
      refine me_iald (pc' := 629) dL_law_628 rfl (mm_St_lr (mm_ibd_of c79) ho) (mm_St_lrn (mm_ibd_of c79) ho) (mm_ibd_of c80) ?_
      refine me_isub (pc' := 630) dL_law_629 rfl ?_
      refine mm_guard (fun c81 => ?_)
      refine me_iast (F' := (mm_Sq q)) (pc' := 631) dL_law_630 rfl (mm_St_lq ho) (mm_St_lqn ho) (mm_ibd_of c81) (fun z => z) ?_
      refine mm_bnd (ms_I h74 (o + 1) (Int32.toNatClampNeg (w73)) (((mh_I h74 (o + 1) (Int32.toNatClampNeg (w73))) - (mh_I h74 (o + 3 + (Int32.toNatClampNeg (u71))) (Int32.toNatClampNeg (w73)))))) (fun _ => [some (.ref 400), some (.ref 0), some (.int u69), none, some (.ref o), some (.int u70), none, none, none, none, some (.int u71), some (.int w72), some (.int w73), none]) (fun _ => []) (fun h82 => h82) (fun h82 => ?_)
      refine me_iload (pc' := 633) (i := 11) dL_law_631 rfl rfl ?_
      refine me_aload (pc' := 635) (i := 4) dL_law_633 rfl rfl ?_
      refine me_getR (pc' := 638) (q' := (o + 2)) dL_law_635 rfl fkL_162 (mm_St_ls ho) (mm_St_lsn ho) rfl (mm_St_2 ho) ?_
      refine me_iload (pc' := 640) (i := 10) dL_law_638 rfl rfl ?_
      refine mm_guard (fun c83 => ?_)
      refine me_aaldA (pc' := 641) (q' := (o + 3 + (Int32.toNatClampNeg (u71)))) dL_law_640 rfl (mm_St_lp ho) (mm_St_lpn ho) (mm_ibd_of c83) (mm_St_r (mm_ibd_of c83) ho) ?_
      refine me_iload (pc' := 643) (i := 12) dL_law_641 rfl rfl ?_
      refine mm_guard (fun c84 => ?_)
      refine me_iald (pc' := 644) dL_law_643 rfl (mm_St_lr (mm_ibd_of c83) ho) (mm_St_lrn (mm_ibd_of c83) ho) (mm_ibd_of c84) ?_
      refine me_aload_n (pc' := 645) (i := 1) dL_law_644 rfl rfl rfl ?_
      refine me_iload (pc' := 647) (i := 12) dL_law_645 rfl rfl ?_
      refine me_callVT (As := [.int w73]) (st := [.int (mh_I h82 (o + 3 + (Int32.toNatClampNeg (u71))) (Int32.toNatClampNeg (w73))), .int w72]) (F' := (mm_Sq q)) (G' := (mm_Sq q)) (F'' := (mm_Sq q)) (pc' := 650) dL_law_647 rfl mfX10_unitCost rfl lkL_179 (mm_ks kd_0) rfl (mm_ltq kd_0) ⟨Nat.le_of_ble_eq_true rfl, Nat.le_of_ble_eq_true rfl⟩ (Nat.le_of_ble_eq_true rfl) (fun z => z) (rX10_unitCost (q := q) w73 h82 ) (fun x85 e86 => ?_)
      rcases x85 with ⟨v87 | E89, h88⟩
      · refine Or.inl ⟨_, _, rfl, fun z => z, ?_⟩
        show mm_E2 _ _ _ _ _ [.int v87, .int (mh_I h82 (o + 3 + (Int32.toNatClampNeg (u71))) (Int32.toNatClampNeg (w73))), .int w72] h88 _ _
        try dsimp only
        refine me_imul (pc' := 651) dL_law_650 rfl ?_
        refine me_iadd (pc' := 652) dL_law_651 rfl ?_
        refine mm_bnd ((w72 + ((mh_I h82 (o + 3 + (Int32.toNatClampNeg (u71))) (Int32.toNatClampNeg (w73))) * v87))) (fun x90 => [some (.ref 400), some (.ref 0), some (.int u69), none, some (.ref o), some (.int u70), none, none, none, none, some (.int u71), some (.int w72), some (.int w73), none]) (fun x90 => [.int x90]) (fun _ => h88) (fun x90 => ?_)
        refine me_istore (pc' := 654) (i := 11) (L' := [some (.ref 400), some (.ref 0), some (.int u69), none, some (.ref o), some (.int u70), none, none, none, none, some (.int u71), some (.int x90), some (.int w73), none]) dL_law_652 rfl (Nat.le_of_ble_eq_true rfl) (Nat.le_of_ble_eq_true rfl) rfl ?_
        refine me_iinc (pc' := 657) (i := 12) (x := w73) (y := w73 + 1) (L' := [some (.ref 400), some (.ref 0), some (.int u69), none, some (.ref o), some (.int u70), none, none, none, none, some (.int u71), some (.int x90), some (.int (w73 + 1)), none]) dL_law_654 rfl (Nat.le_of_ble_eq_true rfl) (Nat.le_of_ble_eq_true rfl) rfl (kc_plus kc_i1) rfl ?_
        refine mm_bnd (w73 + 1) (fun x91 => [some (.ref 400), some (.ref 0), some (.int u69), none, some (.ref o), some (.int u70), none, none, none, none, some (.int u71), some (.int x90), some (.int x91), none]) (fun _ => []) (fun _ => h88) (fun x91 => ?_)
        refine me_goto (tgt := 599) dL_law_657 (by decide) ?_
        exact ih x90 x91 h88
      · exact Or.inr rfl
theorem rL_law_L500 {q : mm_q} (o : Nat) (u128 : Int32) (u129 : Int32) (u130 : Int32) (u131 : Int32) (k : Int32 → mm_H → Option ((Bool ⊕ String) × mm_H))  (ho : mm_St q o) (kp : ∀ (y134 : Int32) (h135 : mm_H), mm_E2 (mm_Sq q) (mm_Sq q) mL_law 551 [some (.ref 400), some (.ref 0), some (.int u128), none, some (.ref o), some (.int u129), none, none, none, none, none, some (.int y134), some (.int u131), none] [] h135 (k y134 h135) lf_zt) : ∀ (n : Nat) (w132 : Int32) (h133 : mm_H), mm_E2 (mm_Sq q) (mm_Sq q) mL_law 500 [some (.ref 400), some (.ref 0), some (.int u128), none, some (.ref o), some (.int u129), none, none, none, none, none, some (.int u130), some (.int u131), some (.int w132)] [] h133 (gL_law_L500 o u128 u129 u130 u131 k  n w132 h133) lf_zt := by
  intro n
  induction n with
  | zero =>
    intro w132 h133
    exact mm_none
  | succ n ih =>
    intro w132 h133
    rw [gL_law_L500]
    refine me_iload (pc' := 502) (i := 13) dL_law_500 rfl rfl ?_
    refine me_aload (pc' := 504) (i := 4) dL_law_502 rfl rfl ?_
    refine me_getI (pc' := 507) dL_law_504 rfl fkL_155 (mm_St_ls ho) (mm_St_lsn ho) rfl ?_
    refine me_icmp_ge (pc' := 510) (tgt := 551) dL_law_507 (by decide) rfl (fun c136 => ?_) (fun c136 => ?_)
    · exact mm_maskB [true, true, true, false, true, true, false, false, false, false, false, true, true, false] (kp u130 h133)
    · refine me_aload (pc' := 512) (i := 4) dL_law_510 rfl rfl ?_
      refine me_getR (pc' := 515) (q' := (o + 2)) dL_law_512 rfl fkL_162 (mm_St_ls ho) (mm_St_lsn ho) rfl (mm_St_2 ho) ?_
      refine me_iload (pc' := 517) (i := 13) dL_law_515 rfl rfl ?_
      refine mm_guard (fun c137 => ?_)
      refine me_aaldA (pc' := 518) (q' := (o + 3 + (Int32.toNatClampNeg (w132)))) dL_law_517 rfl (mm_St_lp ho) (mm_St_lpn ho) (mm_ibd_of c137) (mm_St_r (mm_ibd_of c137) ho) ?_
      refine me_iload (pc' := 520) (i := 12) dL_law_518 rfl rfl ?_
      refine me_aload_n (pc' := 521) (i := 1) dL_law_520 rfl rfl rfl ?_
      refine me_iload (pc' := 523) (i := 13) dL_law_521 rfl rfl ?_
      refine me_callVT (As := [.int w132]) (st := [.int u131, .ref (o + 3 + (Int32.toNatClampNeg (w132)))]) (F' := (mm_Sq q)) (G' := (mm_Sq q)) (F'' := (mm_Sq q)) (pc' := 526) dL_law_523 rfl mfX10_isOpen rfl lkL_97 (mm_ks kd_0) rfl (mm_ltq kd_0) ⟨Nat.le_of_ble_eq_true rfl, Nat.le_of_ble_eq_true rfl⟩ (Nat.le_of_ble_eq_true rfl) (fun z => z) (rX10_isOpen (q := q) w132 h133 ) (fun x138 e139 => ?_)
      rcases x138 with ⟨v140 | E142, h141⟩
      · refine Or.inl ⟨_, _, rfl, fun z => z, ?_⟩
        show mm_E2 _ _ _ _ _ [.int (mx_bi v140), .int u131, .ref (o + 3 + (Int32.toNatClampNeg (w132)))] h141 _ _
        try dsimp only
        refine mm_jnI (fun (j1469 : Int32 → Int32 → Option ((Bool ⊕ String) × mm_H)) => ∀ (y143 : Int32) (y144 : Int32), mm_E2 (mm_Sq q) (mm_Sq q) mL_law 544 [some (.ref 400), some (.ref 0), some (.int u128), none, some (.ref o), some (.int u129), none, none, none, none, none, some (.int u130), some (.int u131), some (.int w132)] [.int y143, .int y144, .ref (o + 3 + (Int32.toNatClampNeg (w132)))] h141 (j1469 y143 y144) lf_zt) ?_ (fun j146 j146p => ?_)
        · intro y143 y144
          refine mm_guard (fun c147 => ?_)
          refine me_iast (F' := (mm_Sq q)) (pc' := 545) dL_law_544 rfl (mm_St_lr (mm_ibd_of c137) ho) (mm_St_lrn (mm_ibd_of c137) ho) (mm_ibd_of c147) (fun z => z) ?_
          refine mm_bnd (ms_I h141 (o + 3 + (Int32.toNatClampNeg (w132))) (Int32.toNatClampNeg (y144)) y143) (fun _ => [some (.ref 400), some (.ref 0), some (.int u128), none, some (.ref o), some (.int u129), none, none, none, none, none, some (.int u130), some (.int u131), some (.int w132)]) (fun _ => []) (fun h148 => h148) (fun h148 => ?_)
          refine me_iinc (pc' := 548) (i := 13) (x := w132) (y := w132 + 1) (L' := [some (.ref 400), some (.ref 0), some (.int u128), none, some (.ref o), some (.int u129), none, none, none, none, none, some (.int u130), some (.int u131), some (.int (w132 + 1))]) dL_law_545 rfl (Nat.le_of_ble_eq_true rfl) (Nat.le_of_ble_eq_true rfl) rfl (kc_plus kc_i1) rfl ?_
          refine mm_bnd (w132 + 1) (fun x149 => [some (.ref 400), some (.ref 0), some (.int u128), none, some (.ref o), some (.int u129), none, none, none, none, none, some (.int u130), some (.int u131), some (.int x149)]) (fun _ => []) (fun _ => h148) (fun x149 => ?_)
          refine me_goto (tgt := 500) dL_law_548 (by decide) ?_
          exact ih x149 h148
        refine me_ifB_eq (pc' := 529) (tgt := 533) dL_law_526 (by decide) rfl (fun c150 => ?_) (fun c150 => ?_)
        · refine me_aload (pc' := 535) (i := 4) dL_law_533 rfl rfl ?_
          refine me_getR (pc' := 538) (q' := (o + 2)) dL_law_535 rfl fkL_162 (mm_St_ls ho) (mm_St_lsn ho) rfl (mm_St_2 ho) ?_
          refine me_iload (pc' := 540) (i := 13) dL_law_538 rfl rfl ?_
          refine mm_guard (fun c151 => ?_)
          refine me_aaldA (pc' := 541) (q' := (o + 3 + (Int32.toNatClampNeg (w132)))) dL_law_540 rfl (mm_St_lp ho) (mm_St_lpn ho) (mm_ibd_of c151) (mm_St_r (mm_ibd_of c151) ho) ?_
          refine me_iload (pc' := 543) (i := 12) dL_law_541 rfl rfl ?_
          refine mm_guard (fun c152 => ?_)
          refine me_iald (pc' := 544) dL_law_543 rfl (mm_St_lr (mm_ibd_of c151) ho) (mm_St_lrn (mm_ibd_of c151) ho) (mm_ibd_of c152) ?_
          exact j146p ((mh_I h141 (o + 3 + (Int32.toNatClampNeg (w132))) (Int32.toNatClampNeg (u131)))) u131
        · refine me_iconst (pc' := 530) (v := 0) dL_law_529 rfl kc_i0 ?_
          refine me_goto (tgt := 544) dL_law_530 (by decide) ?_
          exact j146p 0 u131
      · exact Or.inr rfl
theorem rL_law_L449 {q : mm_q} (o : Nat) (u104 : Int32) (u105 : Int32) (k : Int32 → mm_H → Option ((Bool ⊕ String) × mm_H))  (ho : mm_St q o) (kp : ∀ (y109 : Int32) (h110 : mm_H), mm_E2 (mm_Sq q) (mm_Sq q) mL_law 557 [some (.ref 400), some (.ref 0), some (.int u104), none, some (.ref o), some (.int u105), none, none, none, none, none, some (.int y109), none, none] [] h110 (k y109 h110) lf_zt) : ∀ (n : Nat) (w106 : Int32) (w107 : Int32) (h108 : mm_H), mm_E2 (mm_Sq q) (mm_Sq q) mL_law 449 [some (.ref 400), some (.ref 0), some (.int u104), none, some (.ref o), some (.int u105), none, none, none, none, none, some (.int w106), some (.int w107), none] [] h108 (gL_law_L449 o u104 u105 k  n w106 w107 h108) lf_zt := by
  intro n
  induction n with
  | zero =>
    intro w106 w107 h108
    exact mm_none
  | succ n ih =>
    intro w106 w107 h108
    rw [gL_law_L449]
    refine me_iload (pc' := 451) (i := 12) dL_law_449 rfl rfl ?_
    refine me_aload (pc' := 453) (i := 4) dL_law_451 rfl rfl ?_
    refine me_getI (pc' := 456) dL_law_453 rfl fkL_159 (mm_St_ls ho) (mm_St_lsn ho) rfl ?_
    refine me_icmp_ge (pc' := 459) (tgt := 557) dL_law_456 (by decide) rfl (fun c111 => ?_) (fun c111 => ?_)
    · exact mm_maskB [true, true, true, false, true, true, false, false, false, false, false, true, false, false] (kp w106 h108)
    · refine me_aload_n (pc' := 460) (i := 1) dL_law_459 rfl rfl rfl ?_
      refine me_iload (pc' := 462) (i := 12) dL_law_460 rfl rfl ?_
      refine me_callVT (As := [.int w107]) (st := []) (F' := (mm_Sq q)) (G' := (mm_Sq q)) (F'' := (mm_Sq q)) (pc' := 465) dL_law_462 rfl mfX10_expiryDay rfl lkL_172 (mm_ks kd_0) rfl (mm_ltq kd_0) ⟨Nat.le_of_ble_eq_true rfl, Nat.le_of_ble_eq_true rfl⟩ (Nat.le_of_ble_eq_true rfl) (fun z => z) (rX10_expiryDay (q := q) w107 h108 ) (fun x112 e113 => ?_)
      rcases x112 with ⟨v114 | E116, h115⟩
      · refine Or.inl ⟨_, _, rfl, fun z => z, ?_⟩
        show mm_E2 _ _ _ _ _ [.int v114] h115 _ _
        try dsimp only
        refine me_aload_n (pc' := 466) (i := 1) dL_law_465 rfl rfl rfl ?_
        refine me_callVT (As := []) (st := [.int v114]) (F' := (mm_Sq q)) (G' := (mm_Sq q)) (F'' := (mm_Sq q)) (pc' := 469) dL_law_466 rfl mfX10_day rfl lkL_72 (mm_ks kd_0) rfl (mm_ltq kd_0) ⟨Nat.le_of_ble_eq_true rfl, Nat.le_of_ble_eq_true rfl⟩ (Nat.le_of_ble_eq_true rfl) (fun z => z) (rX10_day (q := q) h115 ) (fun x117 e118 => Or.inl ⟨_, _, rfl, fun z => z, ?_⟩)
        show mm_E2 _ _ _ _ _ [.int x117, .int v114] h115 _ _
        refine mm_jnI (fun (j1219 : Int32 → mm_H → Option ((Bool ⊕ String) × mm_H)) => ∀ (y119 : Int32) (h120 : mm_H), mm_E2 (mm_Sq q) (mm_Sq q) mL_law 551 [some (.ref 400), some (.ref 0), some (.int u104), none, some (.ref o), some (.int u105), none, none, none, none, none, some (.int y119), some (.int w107), none] [] h120 (j1219 y119 h120) lf_zt) ?_ (fun j121 j121p => ?_)
        · intro y119 h120
          refine me_iinc (pc' := 554) (i := 12) (x := w107) (y := w107 + 1) (L' := [some (.ref 400), some (.ref 0), some (.int u104), none, some (.ref o), some (.int u105), none, none, none, none, none, some (.int y119), some (.int (w107 + 1)), none]) dL_law_551 rfl (Nat.le_of_ble_eq_true rfl) (Nat.le_of_ble_eq_true rfl) rfl (kc_plus kc_i1) rfl ?_
          refine mm_bnd (w107 + 1) (fun x122 => [some (.ref 400), some (.ref 0), some (.int u104), none, some (.ref o), some (.int u105), none, none, none, none, none, some (.int y119), some (.int x122), none]) (fun _ => []) (fun _ => h120) (fun x122 => ?_)
          refine me_goto (tgt := 449) dL_law_554 (by decide) ?_
          exact ih y119 x122 h120
        refine me_icmp_lt (pc' := 472) (tgt := 475) dL_law_469 (by decide) rfl (fun c123 => ?_) (fun c123 => ?_)
        · refine me_iload (pc' := 477) (i := 11) dL_law_475 rfl rfl ?_
          refine me_aload (pc' := 479) (i := 4) dL_law_477 rfl rfl ?_
          refine me_getR (pc' := 482) (q' := (o + 1)) dL_law_479 rfl fkL_175 (mm_St_ls ho) (mm_St_lsn ho) rfl (mm_St_1 ho) ?_
          refine me_iload (pc' := 484) (i := 12) dL_law_482 rfl rfl ?_
          refine mm_guard (fun c124 => ?_)
          refine me_iald (pc' := 485) dL_law_484 rfl (mm_St_lq ho) (mm_St_lqn ho) (mm_ibd_of c124) ?_
          refine me_iadd (pc' := 486) dL_law_485 rfl ?_
          refine mm_bnd ((w106 + (mh_I h115 (o + 1) (Int32.toNatClampNeg (w107))))) (fun x125 => [some (.ref 400), some (.ref 0), some (.int u104), none, some (.ref o), some (.int u105), none, none, none, none, none, some (.int w106), some (.int w107), none]) (fun x125 => [.int x125]) (fun _ => h115) (fun x125 => ?_)
          refine me_istore (pc' := 488) (i := 11) (L' := [some (.ref 400), some (.ref 0), some (.int u104), none, some (.ref o), some (.int u105), none, none, none, none, none, some (.int x125), some (.int w107), none]) dL_law_486 rfl (Nat.le_of_ble_eq_true rfl) (Nat.le_of_ble_eq_true rfl) rfl ?_
          refine me_aload (pc' := 490) (i := 4) dL_law_488 rfl rfl ?_
          refine me_getR (pc' := 493) (q' := (o + 1)) dL_law_490 rfl fkL_175 (mm_St_ls ho) (mm_St_lsn ho) rfl (mm_St_1 ho) ?_
          refine me_iload (pc' := 495) (i := 12) dL_law_493 rfl rfl ?_
          refine me_iconst (pc' := 496) (v := 0) dL_law_495 rfl kc_i0 ?_
          refine mm_guard (fun c126 => ?_)
          refine me_iast (F' := (mm_Sq q)) (pc' := 497) dL_law_496 rfl (mm_St_lq ho) (mm_St_lqn ho) (mm_ibd_of c126) (fun z => z) ?_
          refine mm_bnd (ms_I h115 (o + 1) (Int32.toNatClampNeg (w107)) 0) (fun _ => [some (.ref 400), some (.ref 0), some (.int u104), none, some (.ref o), some (.int u105), none, none, none, none, none, some (.int x125), some (.int w107), none]) (fun _ => []) (fun h127 => h127) (fun h127 => ?_)
          refine me_iconst (pc' := 498) (v := 0) dL_law_497 rfl kc_i0 ?_
          refine me_istore (pc' := 500) (i := 13) (L' := [some (.ref 400), some (.ref 0), some (.int u104), none, some (.ref o), some (.int u105), none, none, none, none, none, some (.int x125), some (.int w107), some (.int 0)]) dL_law_498 rfl (Nat.le_of_ble_eq_true rfl) (Nat.le_of_ble_eq_true rfl) rfl ?_
          exact rL_law_L500 (q := q) o u104 u105 x125 w107 j121 ho j121p mm_F 0 h127
        · refine me_goto (tgt := 551) dL_law_472 (by decide) ?_
          exact j121p w106 h115
      · exact Or.inr rfl
theorem rL_law_L389 {q : mm_q} (o : Nat) (u193 : Int32) (u194 : Int32) (u195 : Int32) (u196 : Int32) (k : mm_H → Option ((Bool ⊕ String) × mm_H))  (ho : mm_St q o) (kp : ∀ (h199 : mm_H), mm_E2 (mm_Sq q) (mm_Sq q) mL_law 432 [some (.ref 400), some (.ref 0), some (.int u193), none, some (.ref o), some (.int u194), none, none, none, none, none, none, none, none] [] h199 (k h199) lf_zt) : ∀ (n : Nat) (w197 : Int32) (h198 : mm_H), mm_E2 (mm_Sq q) (mm_Sq q) mL_law 389 [some (.ref 400), some (.ref 0), some (.int u193), none, some (.ref o), some (.int u194), none, none, none, some (.int u195), none, some (.int u196), some (.int w197), none] [] h198 (gL_law_L389 o u193 u194 u195 u196 k  n w197 h198) lf_zt := by
  intro n
  induction n with
  | zero =>
    intro w197 h198
    exact mm_none
  | succ n ih =>
    intro w197 h198
    rw [gL_law_L389]
    refine me_iload (pc' := 391) (i := 12) dL_law_389 rfl rfl ?_
    refine me_aload (pc' := 393) (i := 4) dL_law_391 rfl rfl ?_
    refine me_getI (pc' := 396) dL_law_393 rfl fkL_159 (mm_St_ls ho) (mm_St_lsn ho) rfl ?_
    refine me_icmp_ge (pc' := 399) (tgt := 432) dL_law_396 (by decide) rfl (fun c200 => ?_) (fun c200 => ?_)
    · exact mm_maskB [true, true, true, false, true, true, false, false, false, false, false, false, false, false] (kp h198)
    · refine me_aload (pc' := 401) (i := 4) dL_law_399 rfl rfl ?_
      refine me_getR (pc' := 404) (q' := (o + 2)) dL_law_401 rfl fkL_162 (mm_St_ls ho) (mm_St_lsn ho) rfl (mm_St_2 ho) ?_
      refine me_iload (pc' := 406) (i := 11) dL_law_404 rfl rfl ?_
      refine mm_guard (fun c201 => ?_)
      refine me_aaldA (pc' := 407) (q' := (o + 3 + (Int32.toNatClampNeg (u196)))) dL_law_406 rfl (mm_St_lp ho) (mm_St_lpn ho) (mm_ibd_of c201) (mm_St_r (mm_ibd_of c201) ho) ?_
      refine me_iload (pc' := 409) (i := 12) dL_law_407 rfl rfl ?_
      refine mm_guard (fun c202 => ?_)
      refine me_iald (pc' := 410) dL_law_409 rfl (mm_St_lr (mm_ibd_of c201) ho) (mm_St_lrn (mm_ibd_of c201) ho) (mm_ibd_of c202) ?_
      refine mm_jnI (fun (j2049 : mm_H → Option ((Bool ⊕ String) × mm_H)) => ∀ (h203 : mm_H), mm_E2 (mm_Sq q) (mm_Sq q) mL_law 426 [some (.ref 400), some (.ref 0), some (.int u193), none, some (.ref o), some (.int u194), none, none, none, some (.int u195), none, some (.int u196), some (.int w197), none] [] h203 (j2049 h203) lf_zt) ?_ (fun j204 j204p => ?_)
      · intro h203
        refine me_iinc (pc' := 429) (i := 12) (x := w197) (y := w197 + 1) (L' := [some (.ref 400), some (.ref 0), some (.int u193), none, some (.ref o), some (.int u194), none, none, none, some (.int u195), none, some (.int u196), some (.int (w197 + 1)), none]) dL_law_426 rfl (Nat.le_of_ble_eq_true rfl) (Nat.le_of_ble_eq_true rfl) rfl (kc_plus kc_i1) rfl ?_
        refine mm_bnd (w197 + 1) (fun x205 => [some (.ref 400), some (.ref 0), some (.int u193), none, some (.ref o), some (.int u194), none, none, none, some (.int u195), none, some (.int u196), some (.int x205), none]) (fun _ => []) (fun _ => h203) (fun x205 => ?_)
        refine me_goto (tgt := 389) dL_law_429 (by decide) ?_
        exact ih x205 h203
      refine me_if_le (pc' := 413) (tgt := 426) dL_law_410 (by decide) rfl (fun c206 => ?_) (fun c206 => ?_)
      · exact j204p h198
      · refine me_aload_n (pc' := 414) (i := 1) dL_law_413 rfl rfl rfl ?_
        refine me_iload (pc' := 416) (i := 12) dL_law_414 rfl rfl ?_
        refine me_callVT (As := [.int w197]) (st := []) (F' := (mm_Sq q)) (G' := (mm_Sq q)) (F'' := (mm_Sq q)) (pc' := 419) dL_law_416 rfl mfX10_expiryDay rfl lkL_172 (mm_ks kd_0) rfl (mm_ltq kd_0) ⟨Nat.le_of_ble_eq_true rfl, Nat.le_of_ble_eq_true rfl⟩ (Nat.le_of_ble_eq_true rfl) (fun z => z) (rX10_expiryDay (q := q) w197 h198 ) (fun x207 e208 => ?_)
        rcases x207 with ⟨v209 | E211, h210⟩
        · refine Or.inl ⟨_, _, rfl, fun z => z, ?_⟩
          show mm_E2 _ _ _ _ _ [.int v209] h210 _ _
          try dsimp only
          refine me_iload (pc' := 421) (i := 9) dL_law_419 rfl rfl ?_
          refine me_icmp_ge (pc' := 424) (tgt := 426) dL_law_421 (by decide) rfl (fun c212 => ?_) (fun c212 => ?_)
          · exact j204p h210
          · refine me_iconst (pc' := 425) (v := 0) dL_law_424 rfl kc_i0 ?_
            exact me_zret (b := false) dL_law_425 rfl (fun z => z) rfl
        · exact Or.inr rfl
theorem rL_law_L321 {q : mm_q} (o : Nat) (u213 : Int32) (u214 : Int32) (u215 : Int32) (u216 : Int32) (u217 : Int32) (u218 : Int32) (k : mm_H → Option ((Bool ⊕ String) × mm_H))  (ho : mm_St q o) (kp : ∀ (h221 : mm_H), mm_E2 (mm_Sq q) (mm_Sq q) mL_law 349 [some (.ref 400), some (.ref 0), some (.int u213), none, some (.ref o), some (.int u214), none, some (.int u215), some (.int u216), some (.int u217), none, some (.int u218), none, none] [] h221 (k h221) lf_zt) : ∀ (n : Nat) (w219 : Int32) (h220 : mm_H), mm_E2 (mm_Sq q) (mm_Sq q) mL_law 321 [some (.ref 400), some (.ref 0), some (.int u213), none, some (.ref o), some (.int u214), none, some (.int u215), some (.int u216), some (.int u217), none, some (.int u218), some (.int w219), none] [] h220 (gL_law_L321 o u213 u214 u215 u216 u217 u218 k  n w219 h220) lf_zt := by
  intro n
  induction n with
  | zero =>
    intro w219 h220
    exact mm_none
  | succ n ih =>
    intro w219 h220
    rw [gL_law_L321]
    refine me_iload (pc' := 323) (i := 12) dL_law_321 rfl rfl ?_
    refine me_aload (pc' := 325) (i := 4) dL_law_323 rfl rfl ?_
    refine me_getI (pc' := 328) dL_law_325 rfl fkL_159 (mm_St_ls ho) (mm_St_lsn ho) rfl ?_
    refine me_icmp_ge (pc' := 331) (tgt := 349) dL_law_328 (by decide) rfl (fun c222 => ?_) (fun c222 => ?_)
    · exact mm_maskB [true, true, true, false, true, true, false, true, true, true, false, true, false, false] (kp h220)
    · refine me_aload (pc' := 333) (i := 4) dL_law_331 rfl rfl ?_
      refine me_getR (pc' := 336) (q' := (o + 2)) dL_law_333 rfl fkL_162 (mm_St_ls ho) (mm_St_lsn ho) rfl (mm_St_2 ho) ?_
      refine me_iload (pc' := 338) (i := 11) dL_law_336 rfl rfl ?_
      refine mm_guard (fun c223 => ?_)
      refine me_aaldA (pc' := 339) (q' := (o + 3 + (Int32.toNatClampNeg (u218)))) dL_law_338 rfl (mm_St_lp ho) (mm_St_lpn ho) (mm_ibd_of c223) (mm_St_r (mm_ibd_of c223) ho) ?_
      refine me_iload (pc' := 341) (i := 12) dL_law_339 rfl rfl ?_
      refine me_iconst (pc' := 342) (v := 0) dL_law_341 rfl kc_i0 ?_
      refine mm_guard (fun c224 => ?_)
      refine me_iast (F' := (mm_Sq q)) (pc' := 343) dL_law_342 rfl (mm_St_lr (mm_ibd_of c223) ho) (mm_St_lrn (mm_ibd_of c223) ho) (mm_ibd_of c224) (fun z => z) ?_
      refine mm_bnd (ms_I h220 (o + 3 + (Int32.toNatClampNeg (u218))) (Int32.toNatClampNeg (w219)) 0) (fun _ => [some (.ref 400), some (.ref 0), some (.int u213), none, some (.ref o), some (.int u214), none, some (.int u215), some (.int u216), some (.int u217), none, some (.int u218), some (.int w219), none]) (fun _ => []) (fun h225 => h225) (fun h225 => ?_)
      refine me_iinc (pc' := 346) (i := 12) (x := w219) (y := w219 + 1) (L' := [some (.ref 400), some (.ref 0), some (.int u213), none, some (.ref o), some (.int u214), none, some (.int u215), some (.int u216), some (.int u217), none, some (.int u218), some (.int (w219 + 1)), none]) dL_law_343 rfl (Nat.le_of_ble_eq_true rfl) (Nat.le_of_ble_eq_true rfl) rfl (kc_plus kc_i1) rfl ?_
      refine mm_bnd (w219 + 1) (fun x226 => [some (.ref 400), some (.ref 0), some (.int u213), none, some (.ref o), some (.int u214), none, some (.int u215), some (.int u216), some (.int u217), none, some (.int u218), some (.int x226), none]) (fun _ => []) (fun _ => h225) (fun x226 => ?_)
      refine me_goto (tgt := 321) dL_law_346 (by decide) ?_
      exact ih x226 h225
theorem rL_law_L61 {q : mm_q} (o : Nat) (u1 : Int32)   (ho : mm_St q o) : ∀ (n : Nat) (w2 : Int32) (h3 : mm_H), mm_E2 (mm_Sq q) (mm_Sq q) mL_law 61 [some (.ref 400), some (.ref 0), some (.int u1), none, some (.ref o), some (.int w2), none, none, none, none, none, none, none, none] [] h3 (gL_law_L61 o u1  n w2 h3) lf_zt := by
  intro n
  induction n with
  | zero =>
    intro w2 h3
    exact mm_none
  | succ n ih =>
    intro w2 h3
    rw [gL_law_L61]
    refine me_iload (pc' := 63) (i := 5) dL_law_61 rfl rfl ?_
    refine me_bipush (pc' := 65) (v := 24) dL_law_63 rfl kc_b24 ?_
    refine me_icmp_ge (pc' := 68) (tgt := 696) dL_law_65 (by decide) rfl (fun c4 => ?_) (fun c4 => ?_)
    · refine me_iconst (pc' := 697) (v := 1) dL_law_696 rfl kc_i1 ?_
      exact me_zret (b := true) dL_law_697 rfl (fun z => z) rfl
    · refine me_aload_n (pc' := 69) (i := 0) dL_law_68 rfl rfl rfl ?_
      refine me_bipush (pc' := 71) (v := 17) dL_law_69 rfl kc_b17 ?_
      refine me_iload (pc' := 73) (i := 5) dL_law_71 rfl rfl ?_
      refine me_iadd (pc' := 74) dL_law_73 rfl ?_
      refine me_ldcI (pc' := 76) (v := 268435456) dL_law_74 rfl (mm_gw_of (List.mem_of_getElem? (i := 1187) (by decide +kernel)) rfl) ?_
      refine me_callST (As := [.ref 400, .int (17 + w2), .int 268435456]) (st := []) (F' := (mm_Sq q)) (G' := (mm_Sq q)) (F'' := (mm_Sq q)) (pc' := 79) dL_law_76 rfl mfL_pick rfl lkL_49 ⟨Nat.le_of_ble_eq_true rfl, Nat.le_of_ble_eq_true rfl⟩ (Nat.le_of_ble_eq_true rfl) (fun z => z) (rL_pick (q := q) ((17 + w2)) 268435456 h3 ) (fun x5 e6 => Or.inl ⟨_, _, rfl, fun z => z, ?_⟩)
      show mm_E2 _ _ _ _ _ [.int x5] h3 _ _
      refine me_istore (pc' := 81) (i := 6) (L' := [some (.ref 400), some (.ref 0), some (.int u1), none, some (.ref o), some (.int w2), some (.int x5), none, none, none, none, none, none, none]) dL_law_79 rfl (Nat.le_of_ble_eq_true rfl) (Nat.le_of_ble_eq_true rfl) rfl ?_
      refine me_aload_n (pc' := 82) (i := 1) dL_law_81 rfl rfl rfl ?_
      refine me_iload (pc' := 84) (i := 6) dL_law_82 rfl rfl ?_
      refine me_callST (As := [.ref 0, .int x5]) (st := []) (F' := (mm_Sq q)) (G' := (mm_Sq q)) (F'' := (mm_Sq q)) (pc' := 87) dL_law_84 rfl mfL_act rfl lkL_136 ⟨Nat.le_of_ble_eq_true rfl, Nat.le_of_ble_eq_true rfl⟩ (Nat.le_of_ble_eq_true rfl) (fun z => z) (rL_act (q := q) x5 h3 ) (fun x7 e8 => ?_)
      rcases x7 with ⟨v9 | E11, h10⟩
      · refine Or.inl ⟨_, _, rfl, fun z => z, ?_⟩
        show mm_E2 _ _ _ _ _ [] h10 _ _
        try dsimp only
        refine me_aload (pc' := 89) (i := 4) dL_law_87 rfl rfl ?_
        refine me_callVT (As := []) (st := []) (F' := (mm_Sq q)) (G' := (mm_Sq q)) (F'' := (mm_Sq q)) (pc' := 92) dL_law_89 rfl mfX11_read rfl lkL_140 (mm_St_ls ho) rfl (mm_St_lsn ho) ⟨Nat.le_of_ble_eq_true rfl, Nat.le_of_ble_eq_true rfl⟩ (Nat.le_of_ble_eq_true rfl) (fun z => z) (rX11_read (q := q) o h10 ho) (fun x12 e13 => ?_)
        rcases x12 with ⟨v14 | E16, h15⟩
        · refine Or.inl ⟨_, _, rfl, fun z => z, ?_⟩
          show mm_E2 _ _ _ _ _ [] h15 _ _
          try dsimp only
          refine me_aload (pc' := 94) (i := 4) dL_law_92 rfl rfl ?_
          refine me_callVT (As := []) (st := []) (F' := (mm_Sq q)) (G' := (mm_Sq q)) (F'' := (mm_Sq q)) (pc' := 97) dL_law_94 rfl mfX11_agrees rfl lkL_143 (mm_St_ls ho) rfl (mm_St_lsn ho) ⟨Nat.le_of_ble_eq_true rfl, Nat.le_of_ble_eq_true rfl⟩ (Nat.le_of_ble_eq_true rfl) (fun z => z) (rX11_agrees (q := q) o h15 ho) (fun x17 e18 => ?_)
          rcases x17 with ⟨v19 | E21, h20⟩
          · refine Or.inl ⟨_, _, rfl, fun z => z, ?_⟩
            show mm_E2 _ _ _ _ _ [.int (mx_bi v19)] h20 _ _
            try dsimp only
            refine me_ifB_ne (pc' := 100) (tgt := 102) dL_law_97 (by decide) rfl (fun c22 => ?_) (fun c22 => ?_)
            · refine me_iload (pc' := 104) (i := 6) dL_law_102 rfl rfl ?_
              refine me_bipush (pc' := 106) (v := 16) dL_law_104 rfl kc_b16 ?_
              refine me_idiv (pc' := 107) dL_law_106 rfl kc_nz16 ?_
              refine me_iload_n (pc' := 108) (i := 2) dL_law_107 rfl rfl rfl ?_
              refine mm_if (fun _ => mm_none) (fun c23 => ?_)
              refine me_irem (pc' := 109) dL_law_108 rfl c23 ?_
              refine mm_bnd (((x5 / 16) - (x5 / 16) / u1 * u1)) (fun x24 => [some (.ref 400), some (.ref 0), some (.int u1), none, some (.ref o), some (.int w2), some (.int x5), none, none, none, none, none, none, none]) (fun x24 => [.int x24]) (fun _ => h20) (fun x24 => ?_)
              refine me_istore (pc' := 111) (i := 7) (L' := [some (.ref 400), some (.ref 0), some (.int u1), none, some (.ref o), some (.int w2), some (.int x5), some (.int x24), none, none, none, none, none, none]) dL_law_109 rfl (Nat.le_of_ble_eq_true rfl) (Nat.le_of_ble_eq_true rfl) rfl ?_
              refine me_iconst (pc' := 112) (v := 1) dL_law_111 rfl kc_i1 ?_
              refine me_iload (pc' := 114) (i := 6) dL_law_112 rfl rfl ?_
              refine me_bipush (pc' := 116) (v := 64) dL_law_114 rfl kc_b64 ?_
              refine me_idiv (pc' := 117) dL_law_116 rfl kc_nz64 ?_
              refine me_bipush (pc' := 119) (v := 12) dL_law_117 rfl kc_b12 ?_
              refine me_irem (pc' := 120) dL_law_119 rfl kc_nz12 ?_
              refine me_iadd (pc' := 121) dL_law_120 rfl ?_
              refine mm_bnd ((1 + ((x5 / 64) - (x5 / 64) / 12 * 12))) (fun x25 => [some (.ref 400), some (.ref 0), some (.int u1), none, some (.ref o), some (.int w2), some (.int x5), some (.int x24), none, none, none, none, none, none]) (fun x25 => [.int x25]) (fun _ => h20) (fun x25 => ?_)
              refine me_istore (pc' := 123) (i := 8) (L' := [some (.ref 400), some (.ref 0), some (.int u1), none, some (.ref o), some (.int w2), some (.int x5), some (.int x24), some (.int x25), none, none, none, none, none]) dL_law_121 rfl (Nat.le_of_ble_eq_true rfl) (Nat.le_of_ble_eq_true rfl) rfl ?_
              refine me_aload_n (pc' := 124) (i := 1) dL_law_123 rfl rfl rfl ?_
              refine me_callVT (As := []) (st := []) (F' := (mm_Sq q)) (G' := (mm_Sq q)) (F'' := (mm_Sq q)) (pc' := 127) dL_law_124 rfl mfX10_day rfl lkL_72 (mm_ks kd_0) rfl (mm_ltq kd_0) ⟨Nat.le_of_ble_eq_true rfl, Nat.le_of_ble_eq_true rfl⟩ (Nat.le_of_ble_eq_true rfl) (fun z => z) (rX10_day (q := q) h20 ) (fun x26 e27 => Or.inl ⟨_, _, rfl, fun z => z, ?_⟩)
              show mm_E2 _ _ _ _ _ [.int x26] h20 _ _
              refine me_iload (pc' := 129) (i := 6) dL_law_127 rfl rfl ?_
              refine me_sipush (pc' := 132) (v := 1024) dL_law_129 rfl kc_s1024 ?_
              refine me_idiv (pc' := 133) dL_law_132 rfl kc_nz1024 ?_
              refine me_bipush (pc' := 135) (v := 8) dL_law_133 rfl kc_b8 ?_
              refine me_irem (pc' := 136) dL_law_135 rfl kc_nz8 ?_
              refine me_iadd (pc' := 137) dL_law_136 rfl ?_
              refine mm_bnd ((x26 + ((x5 / 1024) - (x5 / 1024) / 8 * 8))) (fun x28 => [some (.ref 400), some (.ref 0), some (.int u1), none, some (.ref o), some (.int w2), some (.int x5), some (.int x24), some (.int x25), none, none, none, none, none]) (fun x28 => [.int x28]) (fun _ => h20) (fun x28 => ?_)
              refine me_istore (pc' := 139) (i := 9) (L' := [some (.ref 400), some (.ref 0), some (.int u1), none, some (.ref o), some (.int w2), some (.int x5), some (.int x24), some (.int x25), some (.int x28), none, none, none, none]) dL_law_137 rfl (Nat.le_of_ble_eq_true rfl) (Nat.le_of_ble_eq_true rfl) rfl ?_
              refine me_aload_n (pc' := 140) (i := 1) dL_law_139 rfl rfl rfl ?_
              refine me_callVT (As := []) (st := []) (F' := (mm_Sq q)) (G' := (mm_Sq q)) (F'' := (mm_Sq q)) (pc' := 143) dL_law_140 rfl mfX10_reservationCount rfl lkL_66 (mm_ks kd_0) rfl (mm_ltq kd_0) ⟨Nat.le_of_ble_eq_true rfl, Nat.le_of_ble_eq_true rfl⟩ (Nat.le_of_ble_eq_true rfl) (fun z => z) (rX10_reservationCount (q := q) h20 ) (fun x29 e30 => Or.inl ⟨_, _, rfl, fun z => z, ?_⟩)
              show mm_E2 _ _ _ _ _ [.int x29] h20 _ _
              refine mm_jnI (fun (j329 : Int32 → Option ((Bool ⊕ String) × mm_H)) => ∀ (y31 : Int32), mm_E2 (mm_Sq q) (mm_Sq q) mL_law 160 [some (.ref 400), some (.ref 0), some (.int u1), none, some (.ref o), some (.int w2), some (.int x5), some (.int x24), some (.int x25), some (.int x28), none, none, none, none] [.int y31] h20 (j329 y31) lf_zt) ?_ (fun j32 j32p => ?_)
              · intro y31
                refine me_istore (pc' := 162) (i := 10) (L' := [some (.ref 400), some (.ref 0), some (.int u1), none, some (.ref o), some (.int w2), some (.int x5), some (.int x24), some (.int x25), some (.int x28), some (.int y31), none, none, none]) dL_law_160 rfl (Nat.le_of_ble_eq_true rfl) (Nat.le_of_ble_eq_true rfl) rfl ?_
                refine me_iload (pc' := 164) (i := 6) dL_law_162 rfl rfl ?_
                refine me_iconst (pc' := 165) (v := 4) dL_law_164 rfl kc_i4 ?_
                refine me_irem (pc' := 166) dL_law_165 rfl kc_nz4 ?_
                refine mm_jnI (fun (j349 : mm_H → Option ((Bool ⊕ String) × mm_H)) => ∀ (h33 : mm_H), mm_E2 (mm_Sq q) (mm_Sq q) mL_law 690 [some (.ref 400), some (.ref 0), some (.int u1), none, some (.ref o), some (.int w2), none, none, none, none, none, none, none, none] [] h33 (j349 h33) lf_zt) ?_ (fun j34 j34p => ?_)
                · intro h33
                  refine me_iinc (pc' := 693) (i := 5) (x := w2) (y := w2 + 1) (L' := [some (.ref 400), some (.ref 0), some (.int u1), none, some (.ref o), some (.int (w2 + 1)), none, none, none, none, none, none, none, none]) dL_law_690 rfl (Nat.le_of_ble_eq_true rfl) (Nat.le_of_ble_eq_true rfl) rfl (kc_plus kc_i1) rfl ?_
                  refine mm_bnd (w2 + 1) (fun x35 => [some (.ref 400), some (.ref 0), some (.int u1), none, some (.ref o), some (.int x35), none, none, none, none, none, none, none, none]) (fun _ => []) (fun _ => h33) (fun x35 => ?_)
                  refine me_goto (tgt := 61) dL_law_693 (by decide) ?_
                  exact ih x35 h33
                refine mm_jnI (fun (j379 : mm_H → Option ((Bool ⊕ String) × mm_H)) => ∀ (h36 : mm_H), mm_E2 (mm_Sq q) (mm_Sq q) mL_law 252 [some (.ref 400), some (.ref 0), some (.int u1), none, some (.ref o), some (.int w2), some (.int x5), some (.int x24), some (.int x25), some (.int x28), some (.int y31), none, none, none] [] h36 (j379 h36) lf_zt) ?_ (fun j37 j37p => ?_)
                · intro h36
                  refine me_iload (pc' := 254) (i := 6) dL_law_252 rfl rfl ?_
                  refine me_iconst (pc' := 255) (v := 4) dL_law_254 rfl kc_i4 ?_
                  refine me_irem (pc' := 256) dL_law_255 rfl kc_nz4 ?_
                  refine me_iconst (pc' := 257) (v := 1) dL_law_256 rfl kc_i1 ?_
                  refine mm_jnI (fun (j399 : mm_H → Option ((Bool ⊕ String) × mm_H)) => ∀ (h38 : mm_H), mm_E2 (mm_Sq q) (mm_Sq q) mL_law 435 [some (.ref 400), some (.ref 0), some (.int u1), none, some (.ref o), some (.int w2), some (.int x5), none, none, none, some (.int y31), none, none, none] [] h38 (j399 h38) lf_zt) ?_ (fun j39 j39p => ?_)
                  · intro h38
                    refine me_iload (pc' := 437) (i := 6) dL_law_435 rfl rfl ?_
                    refine me_iconst (pc' := 438) (v := 4) dL_law_437 rfl kc_i4 ?_
                    refine me_irem (pc' := 439) dL_law_438 rfl kc_nz4 ?_
                    refine me_iconst (pc' := 440) (v := 2) dL_law_439 rfl kc_i2 ?_
                    refine me_icmp_ne (pc' := 443) (tgt := 579) dL_law_440 (by decide) rfl (fun c40 => ?_) (fun c40 => ?_)
                    · refine me_iload (pc' := 581) (i := 10) dL_law_579 rfl rfl ?_
                      refine me_if_lt (pc' := 584) (tgt := 690) dL_law_581 (by decide) rfl (fun c41 => ?_) (fun c41 => ?_)
                      · exact mm_maskB [true, true, true, false, true, true, false, false, false, false, false, false, false, false] (j34p h38)
                      · refine me_aload_n (pc' := 585) (i := 1) dL_law_584 rfl rfl rfl ?_
                        refine me_iload (pc' := 587) (i := 10) dL_law_585 rfl rfl ?_
                        refine me_callVT (As := [.int y31]) (st := []) (F' := (mm_Sq q)) (G' := (mm_Sq q)) (F'' := (mm_Sq q)) (pc' := 590) dL_law_587 rfl mfX10_whyNotShipped rfl lkL_91 (mm_ks kd_0) rfl (mm_ltq kd_0) ⟨Nat.le_of_ble_eq_true rfl, Nat.le_of_ble_eq_true rfl⟩ (Nat.le_of_ble_eq_true rfl) (fun z => z) (rX10_whyNotShipped (q := q) y31 h38 ) (fun x42 e43 => ?_)
                        rcases x42 with ⟨v44 | E46, h45⟩
                        · refine Or.inl ⟨_, _, rfl, fun z => z, ?_⟩
                          show mm_E2 _ _ _ _ _ [.int v44] h45 _ _
                          try dsimp only
                          refine me_if_ne (pc' := 593) (tgt := 690) dL_law_590 (by decide) rfl (fun c47 => ?_) (fun c47 => ?_)
                          · exact mm_maskB [true, true, true, false, true, true, false, false, false, false, false, false, false, false] (j34p h45)
                          · refine me_iconst (pc' := 594) (v := 0) dL_law_593 rfl kc_i0 ?_
                            refine me_istore (pc' := 596) (i := 11) (L' := [some (.ref 400), some (.ref 0), some (.int u1), none, some (.ref o), some (.int w2), some (.int x5), none, none, none, some (.int y31), some (.int 0), none, none]) dL_law_594 rfl (Nat.le_of_ble_eq_true rfl) (Nat.le_of_ble_eq_true rfl) rfl ?_
                            refine me_iconst (pc' := 597) (v := 0) dL_law_596 rfl kc_i0 ?_
                            refine me_istore (pc' := 599) (i := 12) (L' := [some (.ref 400), some (.ref 0), some (.int u1), none, some (.ref o), some (.int w2), some (.int x5), none, none, none, some (.int y31), some (.int 0), some (.int 0), none]) dL_law_597 rfl (Nat.le_of_ble_eq_true rfl) (Nat.le_of_ble_eq_true rfl) rfl ?_
                            refine mm_jnI (fun (j509 : Int32 → mm_H → Option ((Bool ⊕ String) × mm_H)) => ∀ (y48 : Int32) (h49 : mm_H), mm_E2 (mm_Sq q) (mm_Sq q) mL_law 660 [some (.ref 400), some (.ref 0), some (.int u1), none, some (.ref o), some (.int w2), none, none, none, none, some (.int y31), some (.int y48), none, none] [] h49 (j509 y48 h49) lf_zt) ?_ (fun j50 j50p => ?_)
                            · intro y48 h49
                              refine me_aload_n (pc' := 661) (i := 1) dL_law_660 rfl rfl rfl ?_
                              refine me_iload (pc' := 663) (i := 10) dL_law_661 rfl rfl ?_
                              refine me_callVT (As := [.int y31]) (st := []) (F' := (mm_Sq q)) (G' := (mm_Sq q)) (F'' := (mm_Sq q)) (pc' := 666) dL_law_663 rfl mfX10_ship rfl lkL_94 (mm_ks kd_0) rfl (mm_ltq kd_0) ⟨Nat.le_of_ble_eq_true rfl, Nat.le_of_ble_eq_true rfl⟩ (Nat.le_of_ble_eq_true rfl) (fun z => z) (rX10_ship (q := q) y31 h49 ) (fun x51 e52 => ?_)
                              rcases x51 with ⟨v53 | E55, h54⟩
                              · refine Or.inl ⟨_, _, rfl, fun z => z, ?_⟩
                                show mm_E2 _ _ _ _ _ [.int v53] h54 _ _
                                try dsimp only
                                refine me_iload (pc' := 668) (i := 11) dL_law_666 rfl rfl ?_
                                refine me_icmp_ne (pc' := 671) (tgt := 688) dL_law_668 (by decide) rfl (fun c56 => ?_) (fun c56 => ?_)
                                · refine me_iconst (pc' := 689) (v := 0) dL_law_688 rfl kc_i0 ?_
                                  exact me_zret (b := false) dL_law_689 rfl (fun z => z) rfl
                                · refine me_aload_n (pc' := 672) (i := 1) dL_law_671 rfl rfl rfl ?_
                                  refine me_iload (pc' := 674) (i := 10) dL_law_672 rfl rfl ?_
                                  refine me_callVT (As := [.int y31]) (st := []) (F' := (mm_Sq q)) (G' := (mm_Sq q)) (F'' := (mm_Sq q)) (pc' := 677) dL_law_674 rfl mfX10_isOpen rfl lkL_97 (mm_ks kd_0) rfl (mm_ltq kd_0) ⟨Nat.le_of_ble_eq_true rfl, Nat.le_of_ble_eq_true rfl⟩ (Nat.le_of_ble_eq_true rfl) (fun z => z) (rX10_isOpen (q := q) y31 h54 ) (fun x57 e58 => ?_)
                                  rcases x57 with ⟨v59 | E61, h60⟩
                                  · refine Or.inl ⟨_, _, rfl, fun z => z, ?_⟩
                                    show mm_E2 _ _ _ _ _ [.int (mx_bi v59)] h60 _ _
                                    try dsimp only
                                    refine me_ifB_ne (pc' := 680) (tgt := 688) dL_law_677 (by decide) rfl (fun c62 => ?_) (fun c62 => ?_)
                                    · refine me_iconst (pc' := 689) (v := 0) dL_law_688 rfl kc_i0 ?_
                                      exact me_zret (b := false) dL_law_689 rfl (fun z => z) rfl
                                    · refine me_aload (pc' := 682) (i := 4) dL_law_680 rfl rfl ?_
                                      refine me_callVT (As := []) (st := []) (F' := (mm_Sq q)) (G' := (mm_Sq q)) (F'' := (mm_Sq q)) (pc' := 685) dL_law_682 rfl mfX11_agrees rfl lkL_143 (mm_St_ls ho) rfl (mm_St_lsn ho) ⟨Nat.le_of_ble_eq_true rfl, Nat.le_of_ble_eq_true rfl⟩ (Nat.le_of_ble_eq_true rfl) (fun z => z) (rX11_agrees (q := q) o h60 ho) (fun x63 e64 => ?_)
                                      rcases x63 with ⟨v65 | E67, h66⟩
                                      · refine Or.inl ⟨_, _, rfl, fun z => z, ?_⟩
                                        show mm_E2 _ _ _ _ _ [.int (mx_bi v65)] h66 _ _
                                        try dsimp only
                                        refine me_ifB_ne (pc' := 688) (tgt := 690) dL_law_685 (by decide) rfl (fun c68 => ?_) (fun c68 => ?_)
                                        · exact mm_maskB [true, true, true, false, true, true, false, false, false, false, false, false, false, false] (j34p h66)
                                        · refine me_iconst (pc' := 689) (v := 0) dL_law_688 rfl kc_i0 ?_
                                          exact me_zret (b := false) dL_law_689 rfl (fun z => z) rfl
                                      · exact Or.inr rfl
                                  · exact Or.inr rfl
                              · exact Or.inr rfl
                            exact mm_maskB [true, true, true, false, true, true, false, false, false, false, true, true, true, false] (rL_law_L599 (q := q) o u1 w2 y31 j50 ho j50p mm_F 0 0 h45)
                        · exact Or.inr rfl
                    · refine me_iconst (pc' := 444) (v := 0) dL_law_443 rfl kc_i0 ?_
                      refine me_istore (pc' := 446) (i := 11) (L' := [some (.ref 400), some (.ref 0), some (.int u1), none, some (.ref o), some (.int w2), some (.int x5), none, none, none, some (.int y31), some (.int 0), none, none]) dL_law_444 rfl (Nat.le_of_ble_eq_true rfl) (Nat.le_of_ble_eq_true rfl) rfl ?_
                      refine me_iconst (pc' := 447) (v := 0) dL_law_446 rfl kc_i0 ?_
                      refine me_istore (pc' := 449) (i := 12) (L' := [some (.ref 400), some (.ref 0), some (.int u1), none, some (.ref o), some (.int w2), some (.int x5), none, none, none, some (.int y31), some (.int 0), some (.int 0), none]) dL_law_447 rfl (Nat.le_of_ble_eq_true rfl) (Nat.le_of_ble_eq_true rfl) rfl ?_
                      refine mm_jnI (fun (j949 : Int32 → mm_H → Option ((Bool ⊕ String) × mm_H)) => ∀ (y92 : Int32) (h93 : mm_H), mm_E2 (mm_Sq q) (mm_Sq q) mL_law 557 [some (.ref 400), some (.ref 0), some (.int u1), none, some (.ref o), some (.int w2), none, none, none, none, none, some (.int y92), none, none] [] h93 (j949 y92 h93) lf_zt) ?_ (fun j94 j94p => ?_)
                      · intro y92 h93
                        refine me_aload_n (pc' := 558) (i := 1) dL_law_557 rfl rfl rfl ?_
                        refine me_callVT (As := []) (st := []) (F' := (mm_Sq q)) (G' := (mm_Sq q)) (F'' := (mm_Sq q)) (pc' := 561) dL_law_558 rfl mfX10_writeOffExpired rfl lkL_113 (mm_ks kd_0) rfl (mm_ltq kd_0) ⟨Nat.le_of_ble_eq_true rfl, Nat.le_of_ble_eq_true rfl⟩ (Nat.le_of_ble_eq_true rfl) (fun z => z) (rX10_writeOffExpired (q := q) h93 ) (fun x95 e96 => Or.inl ⟨_, _, rfl, fun z => z, ?_⟩)
                        show mm_E2 _ _ _ _ _ [.int x95.1] x95.2 _ _
                        refine me_iload (pc' := 563) (i := 11) dL_law_561 rfl rfl ?_
                        refine me_icmp_ne (pc' := 566) (tgt := 574) dL_law_563 (by decide) rfl (fun c97 => ?_) (fun c97 => ?_)
                        · refine me_iconst (pc' := 575) (v := 0) dL_law_574 rfl kc_i0 ?_
                          exact me_zret (b := false) dL_law_575 rfl (fun z => z) rfl
                        · refine me_aload (pc' := 568) (i := 4) dL_law_566 rfl rfl ?_
                          refine me_callVT (As := []) (st := []) (F' := (mm_Sq q)) (G' := (mm_Sq q)) (F'' := (mm_Sq q)) (pc' := 571) dL_law_568 rfl mfX11_agrees rfl lkL_143 (mm_St_ls ho) rfl (mm_St_lsn ho) ⟨Nat.le_of_ble_eq_true rfl, Nat.le_of_ble_eq_true rfl⟩ (Nat.le_of_ble_eq_true rfl) (fun z => z) (rX11_agrees (q := q) o x95.2 ho) (fun x98 e99 => ?_)
                          rcases x98 with ⟨v100 | E102, h101⟩
                          · refine Or.inl ⟨_, _, rfl, fun z => z, ?_⟩
                            show mm_E2 _ _ _ _ _ [.int (mx_bi v100)] h101 _ _
                            try dsimp only
                            refine me_ifB_ne (pc' := 574) (tgt := 576) dL_law_571 (by decide) rfl (fun c103 => ?_) (fun c103 => ?_)
                            · refine me_goto (tgt := 690) dL_law_576 (by decide) ?_
                              exact mm_maskB [true, true, true, false, true, true, false, false, false, false, false, false, false, false] (j34p h101)
                            · refine me_iconst (pc' := 575) (v := 0) dL_law_574 rfl kc_i0 ?_
                              exact me_zret (b := false) dL_law_575 rfl (fun z => z) rfl
                          · exact Or.inr rfl
                      exact mm_maskB [true, true, true, false, true, true, false, false, false, false, false, true, true, false] (rL_law_L449 (q := q) o u1 w2 j94 ho j94p mm_F 0 0 h38)
                  refine me_icmp_ne (pc' := 260) (tgt := 435) dL_law_257 (by decide) rfl (fun c153 => ?_) (fun c153 => ?_)
                  · exact mm_maskB [true, true, true, false, true, true, true, false, false, false, true, false, false, false] (j39p h36)
                  · refine me_aload_n (pc' := 261) (i := 1) dL_law_260 rfl rfl rfl ?_
                    refine me_callVT (As := []) (st := []) (F' := (mm_Sq q)) (G' := (mm_Sq q)) (F'' := (mm_Sq q)) (pc' := 264) dL_law_261 rfl mfX10_reservationCount rfl lkL_66 (mm_ks kd_0) rfl (mm_ltq kd_0) ⟨Nat.le_of_ble_eq_true rfl, Nat.le_of_ble_eq_true rfl⟩ (Nat.le_of_ble_eq_true rfl) (fun z => z) (rX10_reservationCount (q := q) h36 ) (fun x154 e155 => Or.inl ⟨_, _, rfl, fun z => z, ?_⟩)
                    show mm_E2 _ _ _ _ _ [.int x154] h36 _ _
                    refine me_bipush (pc' := 266) (v := 10) dL_law_264 rfl kc_b10 ?_
                    refine me_icmp_ge (pc' := 269) (tgt := 435) dL_law_266 (by decide) rfl (fun c156 => ?_) (fun c156 => ?_)
                    · exact mm_maskB [true, true, true, false, true, true, true, false, false, false, true, false, false, false] (j39p h36)
                    · refine me_aload (pc' := 271) (i := 4) dL_law_269 rfl rfl ?_
                      refine me_iload (pc' := 273) (i := 7) dL_law_271 rfl rfl ?_
                      refine me_iload (pc' := 275) (i := 9) dL_law_273 rfl rfl ?_
                      refine me_callVT (As := [.int x24, .int x28]) (st := []) (F' := (mm_Sq q)) (G' := (mm_Sq q)) (F'' := (mm_Sq q)) (pc' := 278) dL_law_275 rfl mfX11_free rfl lkL_148 (mm_St_ls ho) rfl (mm_St_lsn ho) ⟨Nat.le_of_ble_eq_true rfl, Nat.le_of_ble_eq_true rfl⟩ (Nat.le_of_ble_eq_true rfl) (fun z => z) (rX11_free (q := q) o x24 x28 h36 ho) (fun x157 e158 => ?_)
                      rcases x157 with ⟨v159 | E161, h160⟩
                      · refine Or.inl ⟨_, _, rfl, fun z => z, ?_⟩
                        show mm_E2 _ _ _ _ _ [.int v159] h160 _ _
                        try dsimp only
                        refine me_iload (pc' := 280) (i := 8) dL_law_278 rfl rfl ?_
                        refine me_icmp_lt (pc' := 283) (tgt := 435) dL_law_280 (by decide) rfl (fun c162 => ?_) (fun c162 => ?_)
                        · exact mm_maskB [true, true, true, false, true, true, true, false, false, false, true, false, false, false] (j39p h160)
                        · refine me_aload (pc' := 285) (i := 4) dL_law_283 rfl rfl ?_
                          refine me_getI (pc' := 288) dL_law_285 rfl fkL_155 (mm_St_ls ho) (mm_St_lsn ho) rfl ?_
                          refine mm_bnd ((mh_I h160 o 4)) (fun x163 => [some (.ref 400), some (.ref 0), some (.int u1), none, some (.ref o), some (.int w2), some (.int x5), some (.int x24), some (.int x25), some (.int x28), some (.int y31), none, none, none]) (fun x163 => [.int x163]) (fun _ => h160) (fun x163 => ?_)
                          refine me_istore (pc' := 290) (i := 11) (L' := [some (.ref 400), some (.ref 0), some (.int u1), none, some (.ref o), some (.int w2), some (.int x5), some (.int x24), some (.int x25), some (.int x28), some (.int y31), some (.int x163), none, none]) dL_law_288 rfl (Nat.le_of_ble_eq_true rfl) (Nat.le_of_ble_eq_true rfl) rfl ?_
                          refine me_aload (pc' := 292) (i := 4) dL_law_290 rfl rfl ?_
                          refine me_dup (pc' := 293) dL_law_292 rfl rfl ?_
                          refine me_getI (pc' := 296) dL_law_293 rfl fkL_155 (mm_St_ls ho) (mm_St_lsn ho) rfl ?_
                          refine me_iconst (pc' := 297) (v := 1) dL_law_296 rfl kc_i1 ?_
                          refine me_iadd (pc' := 298) dL_law_297 rfl ?_
                          refine me_putI (F' := (mm_Sq q)) (pc' := 301) dL_law_298 rfl fkL_155 (mm_St_ls ho) (mm_St_lsn ho) rfl pgX11_4 (fun z => z) ?_
                          refine mm_bnd (ms_I h160 o 4 (((mh_I h160 o 4) + 1))) (fun _ => [some (.ref 400), some (.ref 0), some (.int u1), none, some (.ref o), some (.int w2), some (.int x5), some (.int x24), some (.int x25), some (.int x28), some (.int y31), some (.int x163), none, none]) (fun _ => []) (fun h164 => h164) (fun h164 => ?_)
                          refine me_aload_n (pc' := 302) (i := 1) dL_law_301 rfl rfl rfl ?_
                          refine me_iload (pc' := 304) (i := 7) dL_law_302 rfl rfl ?_
                          refine me_iload (pc' := 306) (i := 8) dL_law_304 rfl rfl ?_
                          refine me_iload (pc' := 308) (i := 9) dL_law_306 rfl rfl ?_
                          refine me_callVT (As := [.int x24, .int x25, .int x28]) (st := []) (F' := (mm_Sq q)) (G' := (mm_Sq q)) (F'' := (mm_Sq q)) (pc' := 311) dL_law_308 rfl mfX10_reserve rfl lkL_87 (mm_ks kd_0) rfl (mm_ltq kd_0) ⟨Nat.le_of_ble_eq_true rfl, Nat.le_of_ble_eq_true rfl⟩ (Nat.le_of_ble_eq_true rfl) (fun z => z) (rX10_reserve (q := q) x24 x25 x28 h164 ) (fun x165 e166 => ?_)
                          rcases x165 with ⟨v167 | E169, h168⟩
                          · refine Or.inl ⟨_, _, rfl, fun z => z, ?_⟩
                            show mm_E2 _ _ _ _ _ [.int v167] h168 _ _
                            try dsimp only
                            refine me_iload (pc' := 313) (i := 11) dL_law_311 rfl rfl ?_
                            refine me_icmp_eq (pc' := 316) (tgt := 318) dL_law_313 (by decide) rfl (fun c170 => ?_) (fun c170 => ?_)
                            · refine me_iconst (pc' := 319) (v := 0) dL_law_318 rfl kc_i0 ?_
                              refine me_istore (pc' := 321) (i := 12) (L' := [some (.ref 400), some (.ref 0), some (.int u1), none, some (.ref o), some (.int w2), some (.int x5), some (.int x24), some (.int x25), some (.int x28), some (.int y31), some (.int x163), some (.int 0), none]) dL_law_319 rfl (Nat.le_of_ble_eq_true rfl) (Nat.le_of_ble_eq_true rfl) rfl ?_
                              refine mm_jnI (fun (j1729 : mm_H → Option ((Bool ⊕ String) × mm_H)) => ∀ (h171 : mm_H), mm_E2 (mm_Sq q) (mm_Sq q) mL_law 349 [some (.ref 400), some (.ref 0), some (.int u1), none, some (.ref o), some (.int w2), none, some (.int x24), some (.int x25), some (.int x28), none, some (.int x163), none, none] [] h171 (j1729 h171) lf_zt) ?_ (fun j172 j172p => ?_)
                              · intro h171
                                refine me_aload (pc' := 351) (i := 4) dL_law_349 rfl rfl ?_
                                refine me_iload (pc' := 353) (i := 11) dL_law_351 rfl rfl ?_
                                refine me_iload (pc' := 355) (i := 7) dL_law_353 rfl rfl ?_
                                refine me_iload (pc' := 357) (i := 8) dL_law_355 rfl rfl ?_
                                refine me_iload (pc' := 359) (i := 9) dL_law_357 rfl rfl ?_
                                refine me_callVT (As := [.int x163, .int x24, .int x25, .int x28]) (st := []) (F' := (mm_Sq q)) (G' := (mm_Sq q)) (F'' := (mm_Sq q)) (pc' := 362) dL_law_359 rfl mfX11_allocate rfl lkL_166 (mm_St_ls ho) rfl (mm_St_lsn ho) ⟨Nat.le_of_ble_eq_true rfl, Nat.le_of_ble_eq_true rfl⟩ (Nat.le_of_ble_eq_true rfl) (fun z => z) (rX11_allocate (q := q) o x163 x24 x25 x28 h171 ho) (fun x173 e174 => ?_)
                                rcases x173 with ⟨v175 | E177, h176⟩
                                · refine Or.inl ⟨_, _, rfl, fun z => z, ?_⟩
                                  show mm_E2 _ _ _ _ _ [.int v175] h176 _ _
                                  try dsimp only
                                  refine me_iload (pc' := 364) (i := 8) dL_law_362 rfl rfl ?_
                                  refine me_icmp_ne (pc' := 367) (tgt := 384) dL_law_364 (by decide) rfl (fun c178 => ?_) (fun c178 => ?_)
                                  · refine me_iconst (pc' := 385) (v := 0) dL_law_384 rfl kc_i0 ?_
                                    exact me_zret (b := false) dL_law_385 rfl (fun z => z) rfl
                                  · refine me_aload (pc' := 369) (i := 4) dL_law_367 rfl rfl ?_
                                    refine me_callVT (As := []) (st := []) (F' := (mm_Sq q)) (G' := (mm_Sq q)) (F'' := (mm_Sq q)) (pc' := 372) dL_law_369 rfl mfX11_agrees rfl lkL_143 (mm_St_ls ho) rfl (mm_St_lsn ho) ⟨Nat.le_of_ble_eq_true rfl, Nat.le_of_ble_eq_true rfl⟩ (Nat.le_of_ble_eq_true rfl) (fun z => z) (rX11_agrees (q := q) o h176 ho) (fun x179 e180 => ?_)
                                    rcases x179 with ⟨v181 | E183, h182⟩
                                    · refine Or.inl ⟨_, _, rfl, fun z => z, ?_⟩
                                      show mm_E2 _ _ _ _ _ [.int (mx_bi v181)] h182 _ _
                                      try dsimp only
                                      refine me_ifB_eq (pc' := 375) (tgt := 384) dL_law_372 (by decide) rfl (fun c184 => ?_) (fun c184 => ?_)
                                      · refine me_iconst (pc' := 385) (v := 0) dL_law_384 rfl kc_i0 ?_
                                        exact me_zret (b := false) dL_law_385 rfl (fun z => z) rfl
                                      · refine me_aload_n (pc' := 376) (i := 1) dL_law_375 rfl rfl rfl ?_
                                        refine me_iload (pc' := 378) (i := 11) dL_law_376 rfl rfl ?_
                                        refine me_callVT (As := [.int x163]) (st := []) (F' := (mm_Sq q)) (G' := (mm_Sq q)) (F'' := (mm_Sq q)) (pc' := 381) dL_law_378 rfl mfX10_missing rfl lkL_169 (mm_ks kd_0) rfl (mm_ltq kd_0) ⟨Nat.le_of_ble_eq_true rfl, Nat.le_of_ble_eq_true rfl⟩ (Nat.le_of_ble_eq_true rfl) (fun z => z) (rX10_missing (q := q) x163 h182 ) (fun x185 e186 => ?_)
                                        rcases x185 with ⟨v187 | E189, h188⟩
                                        · refine Or.inl ⟨_, _, rfl, fun z => z, ?_⟩
                                          show mm_E2 _ _ _ _ _ [.int v187] h188 _ _
                                          try dsimp only
                                          refine me_if_eq (pc' := 384) (tgt := 386) dL_law_381 (by decide) rfl (fun c190 => ?_) (fun c190 => ?_)
                                          · refine me_iconst (pc' := 387) (v := 0) dL_law_386 rfl kc_i0 ?_
                                            refine me_istore (pc' := 389) (i := 12) (L' := [some (.ref 400), some (.ref 0), some (.int u1), none, some (.ref o), some (.int w2), none, some (.int x24), some (.int x25), some (.int x28), none, some (.int x163), some (.int 0), none]) dL_law_387 rfl (Nat.le_of_ble_eq_true rfl) (Nat.le_of_ble_eq_true rfl) rfl ?_
                                            refine mm_jnI (fun (j1929 : mm_H → Option ((Bool ⊕ String) × mm_H)) => ∀ (h191 : mm_H), mm_E2 (mm_Sq q) (mm_Sq q) mL_law 432 [some (.ref 400), some (.ref 0), some (.int u1), none, some (.ref o), some (.int w2), none, none, none, none, none, none, none, none] [] h191 (j1929 h191) lf_zt) ?_ (fun j192 j192p => ?_)
                                            · intro h191
                                              refine me_goto (tgt := 690) dL_law_432 (by decide) ?_
                                              exact j34p h191
                                            exact mm_maskB [true, true, true, false, true, true, false, false, false, true, false, true, true, false] (rL_law_L389 (q := q) o u1 w2 x28 x163 j192 ho j192p mm_F 0 h188)
                                          · refine me_iconst (pc' := 385) (v := 0) dL_law_384 rfl kc_i0 ?_
                                            exact me_zret (b := false) dL_law_385 rfl (fun z => z) rfl
                                        · exact Or.inr rfl
                                    · exact Or.inr rfl
                                · exact Or.inr rfl
                              exact mm_maskB [true, true, true, false, true, true, false, true, true, true, false, true, true, false] (rL_law_L321 (q := q) o u1 w2 x24 x25 x28 x163 j172 ho j172p mm_F 0 h168)
                            · refine me_iconst (pc' := 317) (v := 0) dL_law_316 rfl kc_i0 ?_
                              exact me_zret (b := false) dL_law_317 rfl (fun z => z) rfl
                          · exact Or.inr rfl
                      · exact Or.inr rfl
                refine me_if_ne (pc' := 169) (tgt := 252) dL_law_166 (by decide) rfl (fun c227 => ?_) (fun c227 => ?_)
                · exact j37p h20
                · refine me_aload (pc' := 171) (i := 4) dL_law_169 rfl rfl ?_
                  refine me_iload (pc' := 173) (i := 7) dL_law_171 rfl rfl ?_
                  refine me_aload_n (pc' := 174) (i := 1) dL_law_173 rfl rfl rfl ?_
                  refine me_callVT (As := []) (st := [.int x24, .ref o]) (F' := (mm_Sq q)) (G' := (mm_Sq q)) (F'' := (mm_Sq q)) (pc' := 177) dL_law_174 rfl mfX10_day rfl lkL_72 (mm_ks kd_0) rfl (mm_ltq kd_0) ⟨Nat.le_of_ble_eq_true rfl, Nat.le_of_ble_eq_true rfl⟩ (Nat.le_of_ble_eq_true rfl) (fun z => z) (rX10_day (q := q) h20 ) (fun x228 e229 => Or.inl ⟨_, _, rfl, fun z => z, ?_⟩)
                  show mm_E2 _ _ _ _ _ [.int x228, .int x24, .ref o] h20 _ _
                  refine me_callVT (As := [.int x24, .int x228]) (st := []) (F' := (mm_Sq q)) (G' := (mm_Sq q)) (F'' := (mm_Sq q)) (pc' := 180) dL_law_177 rfl mfX11_free rfl lkL_148 (mm_St_ls ho) rfl (mm_St_lsn ho) ⟨Nat.le_of_ble_eq_true rfl, Nat.le_of_ble_eq_true rfl⟩ (Nat.le_of_ble_eq_true rfl) (fun z => z) (rX11_free (q := q) o x24 x228 h20 ho) (fun x230 e231 => ?_)
                  rcases x230 with ⟨v232 | E234, h233⟩
                  · refine Or.inl ⟨_, _, rfl, fun z => z, ?_⟩
                    show mm_E2 _ _ _ _ _ [.int v232] h233 _ _
                    try dsimp only
                    refine me_iload (pc' := 182) (i := 8) dL_law_180 rfl rfl ?_
                    refine me_icmp_lt (pc' := 185) (tgt := 252) dL_law_182 (by decide) rfl (fun c235 => ?_) (fun c235 => ?_)
                    · exact j37p h233
                    · refine me_aload_n (pc' := 186) (i := 1) dL_law_185 rfl rfl rfl ?_
                      refine me_iload (pc' := 188) (i := 7) dL_law_186 rfl rfl ?_
                      refine me_iload (pc' := 190) (i := 8) dL_law_188 rfl rfl ?_
                      refine me_callVT (As := [.int x24, .int x25]) (st := []) (F' := (mm_Sq q)) (G' := (mm_Sq q)) (F'' := (mm_Sq q)) (pc' := 193) dL_law_190 rfl mfX10_costOfIssue rfl lkL_151 (mm_ks kd_0) rfl (mm_ltq kd_0) ⟨Nat.le_of_ble_eq_true rfl, Nat.le_of_ble_eq_true rfl⟩ (Nat.le_of_ble_eq_true rfl) (fun z => z) (rX10_costOfIssue (q := q) x24 x25 h233 ) (fun x236 e237 => ?_)
                      rcases x236 with ⟨v238 | E240, h239⟩
                      · refine Or.inl ⟨_, _, rfl, fun z => z, ?_⟩
                        show mm_E2 _ _ _ _ _ [.int v238] h239 _ _
                        try dsimp only
                        refine me_if_ge (pc' := 196) (tgt := 198) dL_law_193 (by decide) rfl (fun c241 => ?_) (fun c241 => ?_)
                        · refine me_aload_n (pc' := 199) (i := 1) dL_law_198 rfl rfl rfl ?_
                          refine me_iload (pc' := 201) (i := 7) dL_law_199 rfl rfl ?_
                          refine me_iload (pc' := 203) (i := 8) dL_law_201 rfl rfl ?_
                          refine me_callVT (As := [.int x24, .int x25]) (st := []) (F' := (mm_Sq q)) (G' := (mm_Sq q)) (F'' := (mm_Sq q)) (pc' := 206) dL_law_203 rfl mfX10_costOfIssue rfl lkL_151 (mm_ks kd_0) rfl (mm_ltq kd_0) ⟨Nat.le_of_ble_eq_true rfl, Nat.le_of_ble_eq_true rfl⟩ (Nat.le_of_ble_eq_true rfl) (fun z => z) (rX10_costOfIssue (q := q) x24 x25 h239 ) (fun x242 e243 => ?_)
                          rcases x242 with ⟨v244 | E246, h245⟩
                          · refine Or.inl ⟨_, _, rfl, fun z => z, ?_⟩
                            show mm_E2 _ _ _ _ _ [.int v244] h245 _ _
                            try dsimp only
                            refine me_istore (pc' := 208) (i := 11) (L' := [some (.ref 400), some (.ref 0), some (.int u1), none, some (.ref o), some (.int w2), some (.int x5), some (.int x24), some (.int x25), some (.int x28), some (.int y31), some (.int v244), none, none]) dL_law_206 rfl (Nat.le_of_ble_eq_true rfl) (Nat.le_of_ble_eq_true rfl) rfl ?_
                            refine me_aload (pc' := 210) (i := 4) dL_law_208 rfl rfl ?_
                            refine me_iload (pc' := 212) (i := 7) dL_law_210 rfl rfl ?_
                            refine me_iload (pc' := 214) (i := 8) dL_law_212 rfl rfl ?_
                            refine me_callVT (As := [.int x24, .int x25]) (st := []) (F' := (mm_Sq q)) (G' := (mm_Sq q)) (F'' := (mm_Sq q)) (pc' := 217) dL_law_214 rfl mfX11_issue rfl lkL_154 (mm_St_ls ho) rfl (mm_St_lsn ho) ⟨Nat.le_of_ble_eq_true rfl, Nat.le_of_ble_eq_true rfl⟩ (Nat.le_of_ble_eq_true rfl) (fun z => z) (rX11_issue (q := q) o x24 x25 h245 ho) (fun x247 e248 => ?_)
                            rcases x247 with ⟨v249 | E251, h250⟩
                            · refine Or.inl ⟨_, _, rfl, fun z => z, ?_⟩
                              show mm_E2 _ _ _ _ _ [.int v249] h250 _ _
                              try dsimp only
                              refine me_istore (pc' := 219) (i := 12) (L' := [some (.ref 400), some (.ref 0), some (.int u1), none, some (.ref o), some (.int w2), some (.int x5), some (.int x24), some (.int x25), some (.int x28), some (.int y31), some (.int v244), some (.int v249), none]) dL_law_217 rfl (Nat.le_of_ble_eq_true rfl) (Nat.le_of_ble_eq_true rfl) rfl ?_
                              refine me_aload_n (pc' := 220) (i := 1) dL_law_219 rfl rfl rfl ?_
                              refine me_iload (pc' := 222) (i := 7) dL_law_220 rfl rfl ?_
                              refine me_iload (pc' := 224) (i := 8) dL_law_222 rfl rfl ?_
                              refine me_callVT (As := [.int x24, .int x25]) (st := []) (F' := (mm_Sq q)) (G' := (mm_Sq q)) (F'' := (mm_Sq q)) (pc' := 227) dL_law_224 rfl mfX10_issue rfl lkL_84 (mm_ks kd_0) rfl (mm_ltq kd_0) ⟨Nat.le_of_ble_eq_true rfl, Nat.le_of_ble_eq_true rfl⟩ (Nat.le_of_ble_eq_true rfl) (fun z => z) (rX10_issue (q := q) x24 x25 h250 ) (fun x252 e253 => ?_)
                              rcases x252 with ⟨v254 | E256, h255⟩
                              · refine Or.inl ⟨_, _, rfl, fun z => z, ?_⟩
                                show mm_E2 _ _ _ _ _ [.int v254] h255 _ _
                                try dsimp only
                                refine me_iload (pc' := 229) (i := 12) dL_law_227 rfl rfl ?_
                                refine me_icmp_ne (pc' := 232) (tgt := 247) dL_law_229 (by decide) rfl (fun c257 => ?_) (fun c257 => ?_)
                                · refine me_iconst (pc' := 248) (v := 0) dL_law_247 rfl kc_i0 ?_
                                  exact me_zret (b := false) dL_law_248 rfl (fun z => z) rfl
                                · refine me_iload (pc' := 234) (i := 11) dL_law_232 rfl rfl ?_
                                  refine me_iload (pc' := 236) (i := 12) dL_law_234 rfl rfl ?_
                                  refine me_icmp_ne (pc' := 239) (tgt := 247) dL_law_236 (by decide) rfl (fun c258 => ?_) (fun c258 => ?_)
                                  · refine me_iconst (pc' := 248) (v := 0) dL_law_247 rfl kc_i0 ?_
                                    exact me_zret (b := false) dL_law_248 rfl (fun z => z) rfl
                                  · refine me_aload (pc' := 241) (i := 4) dL_law_239 rfl rfl ?_
                                    refine me_callVT (As := []) (st := []) (F' := (mm_Sq q)) (G' := (mm_Sq q)) (F'' := (mm_Sq q)) (pc' := 244) dL_law_241 rfl mfX11_agrees rfl lkL_143 (mm_St_ls ho) rfl (mm_St_lsn ho) ⟨Nat.le_of_ble_eq_true rfl, Nat.le_of_ble_eq_true rfl⟩ (Nat.le_of_ble_eq_true rfl) (fun z => z) (rX11_agrees (q := q) o h255 ho) (fun x259 e260 => ?_)
                                    rcases x259 with ⟨v261 | E263, h262⟩
                                    · refine Or.inl ⟨_, _, rfl, fun z => z, ?_⟩
                                      show mm_E2 _ _ _ _ _ [.int (mx_bi v261)] h262 _ _
                                      try dsimp only
                                      refine me_ifB_ne (pc' := 247) (tgt := 249) dL_law_244 (by decide) rfl (fun c264 => ?_) (fun c264 => ?_)
                                      · refine me_goto (tgt := 690) dL_law_249 (by decide) ?_
                                        exact mm_maskB [true, true, true, false, true, true, false, false, false, false, false, false, false, false] (j34p h262)
                                      · refine me_iconst (pc' := 248) (v := 0) dL_law_247 rfl kc_i0 ?_
                                        exact me_zret (b := false) dL_law_248 rfl (fun z => z) rfl
                                    · exact Or.inr rfl
                              · exact Or.inr rfl
                            · exact Or.inr rfl
                          · exact Or.inr rfl
                        · refine me_iconst (pc' := 197) (v := 0) dL_law_196 rfl kc_i0 ?_
                          exact me_zret (b := false) dL_law_197 rfl (fun z => z) rfl
                      · exact Or.inr rfl
                  · exact Or.inr rfl
              refine me_if_ne (pc' := 146) (tgt := 150) dL_law_143 (by decide) rfl (fun c265 => ?_) (fun c265 => ?_)
              · refine me_iload (pc' := 152) (i := 6) dL_law_150 rfl rfl ?_
                refine me_ldcI (pc' := 154) (v := 32768) dL_law_152 rfl (mm_gw_of (List.mem_of_getElem? (i := 1309) (by decide +kernel)) rfl) ?_
                refine me_idiv (pc' := 155) dL_law_154 rfl kc_nz32768 ?_
                refine me_aload_n (pc' := 156) (i := 1) dL_law_155 rfl rfl rfl ?_
                refine me_callVT (As := []) (st := [.int (x5 / 32768)]) (F' := (mm_Sq q)) (G' := (mm_Sq q)) (F'' := (mm_Sq q)) (pc' := 159) dL_law_156 rfl mfX10_reservationCount rfl lkL_66 (mm_ks kd_0) rfl (mm_ltq kd_0) ⟨Nat.le_of_ble_eq_true rfl, Nat.le_of_ble_eq_true rfl⟩ (Nat.le_of_ble_eq_true rfl) (fun z => z) (rX10_reservationCount (q := q) h20 ) (fun x266 e267 => Or.inl ⟨_, _, rfl, fun z => z, ?_⟩)
                show mm_E2 _ _ _ _ _ [.int x266, .int (x5 / 32768)] h20 _ _
                refine mm_if (fun _ => mm_none) (fun c268 => ?_)
                refine me_irem (pc' := 160) dL_law_159 rfl c268 ?_
                exact j32p (((x5 / 32768) - (x5 / 32768) / x266 * x266))
              · refine me_iconst (pc' := 147) (v := (-1)) dL_law_146 rfl kc_im1 ?_
                refine me_goto (tgt := 160) dL_law_147 (by decide) ?_
                exact j32p (-1)
            · refine me_iconst (pc' := 101) (v := 0) dL_law_100 rfl kc_i0 ?_
              exact me_zret (b := false) dL_law_101 rfl (fun z => z) rfl
          · exact Or.inr rfl
        · exact Or.inr rfl
      · exact Or.inr rfl
end MMLAW

section MMWD
/-! printed walks (gen16.py, dec.py) -/
def gX11_thrown (h : mm_H) : Option Int32 :=
some ((mh_I h 352 9))
theorem rX11_thrown {q : Nat × Nat} (h : mm_H) (hN : 358 ≤ q.1) : mm_R2 (mm_Sq q) (mm_Sq q) mX11_thrown [.ref 352] h (gX11_thrown h) (lf_i h) := by
  refine mm_body (L := [some (.ref 352)]) rfl (by decide +kernel) (Nat.le_of_ble_eq_true rfl) rfl ?_
  unfold gX11_thrown
  refine me_aload_n (pc' := 1) (i := 0) dX11_thrown_0 rfl rfl rfl ?_
  refine me_getI (pc' := 4) dX11_thrown_1 rfl fkX11_1 kd_352 (mm_ltm kd_352 hN) rfl ?_
  exact me_iret dX11_thrown_4 rfl (fun z => z) rfl
def gX11_isDigit (p0 : Int32) (h : mm_H) : Option Bool :=
if p0 < 48 then
some false
else
if 57 < p0 then
some false
else
some true
theorem rX11_isDigit {q : Nat × Nat} (p0 : Int32) (h : mm_H) (hN : 358 ≤ q.1) : mm_R2 (mm_Sq q) (mm_Sq q) mX11_isDigit [.int p0] h (gX11_isDigit p0 h) (lf_z h) := by
  refine mm_body (L := [some (.int p0)]) rfl (by decide +kernel) (Nat.le_of_ble_eq_true rfl) rfl ?_
  unfold gX11_isDigit
  refine me_iload_n (pc' := 1) (i := 0) dX11_isDigit_0 rfl rfl rfl ?_
  refine me_bipush (pc' := 3) (v := 48) dX11_isDigit_1 rfl kc_b48 ?_
  refine me_icmp_lt (pc' := 6) (tgt := 16) dX11_isDigit_3 (by decide) rfl (fun c1 => ?_) (fun c1 => ?_)
  · refine me_iconst (pc' := 17) (v := 0) dX11_isDigit_16 rfl kc_i0 ?_
    exact me_zret (b := false) dX11_isDigit_17 rfl (fun z => z) rfl
  · refine me_iload_n (pc' := 7) (i := 0) dX11_isDigit_6 rfl rfl rfl ?_
    refine me_bipush (pc' := 9) (v := 57) dX11_isDigit_7 rfl kc_b57 ?_
    refine me_icmp_gt (pc' := 12) (tgt := 16) dX11_isDigit_9 (by decide) rfl (fun c2 => ?_) (fun c2 => ?_)
    · refine me_iconst (pc' := 17) (v := 0) dX11_isDigit_16 rfl kc_i0 ?_
      exact me_zret (b := false) dX11_isDigit_17 rfl (fun z => z) rfl
    · refine me_iconst (pc' := 13) (v := 1) dX11_isDigit_12 rfl kc_i1 ?_
      refine me_goto (tgt := 17) dX11_isDigit_13 (by decide) ?_
      exact me_zret (b := true) dX11_isDigit_17 rfl (fun z => z) rfl
def gX11_isSmall (p0 : Int32) (h : mm_H) : Option Bool :=
if p0 < 97 then
some false
else
if 122 < p0 then
some false
else
some true
theorem rX11_isSmall {q : Nat × Nat} (p0 : Int32) (h : mm_H) (hN : 358 ≤ q.1) : mm_R2 (mm_Sq q) (mm_Sq q) mX11_isSmall [.int p0] h (gX11_isSmall p0 h) (lf_z h) := by
  refine mm_body (L := [some (.int p0)]) rfl (by decide +kernel) (Nat.le_of_ble_eq_true rfl) rfl ?_
  unfold gX11_isSmall
  refine me_iload_n (pc' := 1) (i := 0) dX11_isSmall_0 rfl rfl rfl ?_
  refine me_bipush (pc' := 3) (v := 97) dX11_isSmall_1 rfl kc_b97 ?_
  refine me_icmp_lt (pc' := 6) (tgt := 16) dX11_isSmall_3 (by decide) rfl (fun c1 => ?_) (fun c1 => ?_)
  · refine me_iconst (pc' := 17) (v := 0) dX11_isSmall_16 rfl kc_i0 ?_
    exact me_zret (b := false) dX11_isSmall_17 rfl (fun z => z) rfl
  · refine me_iload_n (pc' := 7) (i := 0) dX11_isSmall_6 rfl rfl rfl ?_
    refine me_bipush (pc' := 9) (v := 122) dX11_isSmall_7 rfl kc_b122 ?_
    refine me_icmp_gt (pc' := 12) (tgt := 16) dX11_isSmall_9 (by decide) rfl (fun c2 => ?_) (fun c2 => ?_)
    · refine me_iconst (pc' := 17) (v := 0) dX11_isSmall_16 rfl kc_i0 ?_
      exact me_zret (b := false) dX11_isSmall_17 rfl (fun z => z) rfl
    · refine me_iconst (pc' := 13) (v := 1) dX11_isSmall_12 rfl kc_i1 ?_
      refine me_goto (tgt := 17) dX11_isSmall_13 (by decide) ?_
      exact me_zret (b := true) dX11_isSmall_17 rfl (fun z => z) rfl
def gX11_token_L175 : Nat → mm_H → Option mm_H
  | 0, _ => none
  | n + 1, h20 =>
    mm_jn (fun (_ : Unit) =>
    if 4 < ((mh_I h20 352 10) - (mh_I h20 352 12)) then
    (some (ms_I h20 352 11 4)).bind (fun (h24 : mm_H) =>
    some h24)
    else
    (some (ms_I h20 352 11 2)).bind (fun (h23 : mm_H) =>
    some h23)) (fun (j21 : Unit → Option mm_H) =>
    if (mh_I h20 352 10) < (mh_I h20 352 4) then
    if mm_ibd ((mh_I h20 352 10)) 600 = true then
    (gX11_isDigit ((mh_I h20 355 (Int32.toNatClampNeg ((mh_I h20 352 10))))) h20).bind (fun (x27 : Bool) =>
    if x27 = true then
    mm_jn (fun (h30 : mm_H) =>
    (some (ms_I h30 352 10 (((mh_I h30 352 10) + 1)))).bind (fun (h32 : mm_H) =>
    gX11_token_L175 n h32)) (fun (j31 : mm_H → Option mm_H) =>
    if ((mh_I h20 352 10) - (mh_I h20 352 12)) < 4 then
    if mm_ibd ((mh_I h20 352 10)) 600 = true then
    (some (ms_I h20 352 13 (((((mh_I h20 352 13) * 10) + (mh_I h20 355 (Int32.toNatClampNeg ((mh_I h20 352 10))))) - 48)))).bind (fun (h35 : mm_H) =>
    j31 h35) else none
    else
    j31 h20)
    else
    j21 ()) else none
    else
    j21 ())
def gX11_token_L92 : Nat → mm_H → Option mm_H
  | 0, _ => none
  | n + 1, h36 =>
    mm_jn (fun (_ : Unit) =>
    if 9 < ((mh_I h36 352 10) - (mh_I h36 352 12)) then
    (some (ms_I h36 352 11 4)).bind (fun (h40 : mm_H) =>
    some h40)
    else
    (some (ms_I h36 352 11 1)).bind (fun (h39 : mm_H) =>
    some h39)) (fun (j37 : Unit → Option mm_H) =>
    if (mh_I h36 352 10) < (mh_I h36 352 4) then
    if mm_ibd ((mh_I h36 352 10)) 600 = true then
    (gX11_isSmall ((mh_I h36 355 (Int32.toNatClampNeg ((mh_I h36 352 10))))) h36).bind (fun (x43 : Bool) =>
    if x43 = true then
    (some (ms_I h36 352 10 (((mh_I h36 352 10) + 1)))).bind (fun (h46 : mm_H) =>
    gX11_token_L92 n h46)
    else
    j37 ()) else none
    else
    j37 ())
def gX11_token_L0 : Nat → mm_H → Option mm_H
  | 0, _ => none
  | n + 1, h52 =>
    mm_jn (fun (_ : Unit) =>
    (some (ms_I h52 352 12 ((mh_I h52 352 10)))).bind (fun (h54 : mm_H) =>
    if (mh_I h54 352 10) = (mh_I h54 352 4) then
    (some (ms_I h54 352 11 0)).bind (fun (h72 : mm_H) =>
    some h72)
    else
    if mm_ibd ((mh_I h54 352 10)) 600 = true then
    (gX11_isSmall ((mh_I h54 355 (Int32.toNatClampNeg ((mh_I h54 352 10))))) h54).bind (fun (x57 : Bool) =>
    if x57 = true then
    gX11_token_L92 mm_F h54
    else
    if mm_ibd ((mh_I h54 352 10)) 600 = true then
    (gX11_isDigit ((mh_I h54 355 (Int32.toNatClampNeg ((mh_I h54 352 10))))) h54).bind (fun (x61 : Bool) =>
    if x61 = true then
    (some (ms_I h54 352 13 0)).bind (fun (h71 : mm_H) =>
    gX11_token_L175 mm_F h71)
    else
    if mm_ibd ((mh_I h54 352 10)) 600 = true then
    mm_jn (fun (y65 : Int32) =>
    (some (ms_I h54 352 11 y65)).bind (fun (h68 : mm_H) =>
    (some (ms_I h68 352 10 (((mh_I h68 352 10) + 1)))).bind (fun (h69 : mm_H) =>
    some h69))) (fun (j67 : Int32 → Option mm_H) =>
    if (mh_I h54 355 (Int32.toNatClampNeg ((mh_I h54 352 10)))) = 59 then
    j67 3
    else
    j67 4) else none) else none) else none)) (fun (j53 : Unit → Option mm_H) =>
    if (mh_I h52 352 10) < (mh_I h52 352 4) then
    if mm_ibd ((mh_I h52 352 10)) 600 = true then
    mm_jn (fun (_ : Unit) =>
    (some (ms_I h52 352 10 (((mh_I h52 352 10) + 1)))).bind (fun (h76 : mm_H) =>
    gX11_token_L0 n h76)) (fun (j75 : Unit → Option mm_H) =>
    if (mh_I h52 355 (Int32.toNatClampNeg ((mh_I h52 352 10)))) = 32 then
    j75 ()
    else
    if mm_ibd ((mh_I h52 352 10)) 600 = true then
    if (mh_I h52 355 (Int32.toNatClampNeg ((mh_I h52 352 10)))) = 10 then
    j75 ()
    else
    j53 () else none) else none
    else
    j53 ())
def gX11_token (h : mm_H) : Option mm_H :=
mm_jn (fun (_ : Unit) =>
(some (ms_I h 352 12 ((mh_I h 352 10)))).bind (fun (h2 : mm_H) =>
if (mh_I h2 352 10) = (mh_I h2 352 4) then
(some (ms_I h2 352 11 0)).bind (fun (h47 : mm_H) =>
some h47)
else
if mm_ibd ((mh_I h2 352 10)) 600 = true then
(gX11_isSmall ((mh_I h2 355 (Int32.toNatClampNeg ((mh_I h2 352 10))))) h2).bind (fun (x5 : Bool) =>
if x5 = true then
gX11_token_L92 mm_F h2
else
if mm_ibd ((mh_I h2 352 10)) 600 = true then
(gX11_isDigit ((mh_I h2 355 (Int32.toNatClampNeg ((mh_I h2 352 10))))) h2).bind (fun (x9 : Bool) =>
if x9 = true then
(some (ms_I h2 352 13 0)).bind (fun (h19 : mm_H) =>
gX11_token_L175 mm_F h19)
else
if mm_ibd ((mh_I h2 352 10)) 600 = true then
mm_jn (fun (y13 : Int32) =>
(some (ms_I h2 352 11 y13)).bind (fun (h16 : mm_H) =>
(some (ms_I h16 352 10 (((mh_I h16 352 10) + 1)))).bind (fun (h17 : mm_H) =>
some h17))) (fun (j15 : Int32 → Option mm_H) =>
if (mh_I h2 355 (Int32.toNatClampNeg ((mh_I h2 352 10)))) = 59 then
j15 3
else
j15 4) else none) else none) else none)) (fun (j1 : Unit → Option mm_H) =>
if (mh_I h 352 10) < (mh_I h 352 4) then
if mm_ibd ((mh_I h 352 10)) 600 = true then
mm_jn (fun (_ : Unit) =>
(some (ms_I h 352 10 (((mh_I h 352 10) + 1)))).bind (fun (h51 : mm_H) =>
gX11_token_L0 mm_F h51)) (fun (j50 : Unit → Option mm_H) =>
if (mh_I h 355 (Int32.toNatClampNeg ((mh_I h 352 10)))) = 32 then
j50 ()
else
if mm_ibd ((mh_I h 352 10)) 600 = true then
if (mh_I h 355 (Int32.toNatClampNeg ((mh_I h 352 10)))) = 10 then
j50 ()
else
j1 () else none) else none
else
j1 ())
theorem rX11_token_L175 {q : Nat × Nat}      (hN : 358 ≤ q.1) : ∀ (n : Nat) (h20 : mm_H), mm_E2 (mm_Sq q) (mm_Sq q) mX11_token 175 [some (.ref 352)] [] h20 (gX11_token_L175  n h20) lf_v := by
  intro n
  induction n with
  | zero =>
    intro h20
    exact mm_none
  | succ n ih =>
    intro h20
    rw [gX11_token_L175]
    refine me_aload_n (pc' := 176) (i := 0) dX11_token_175 rfl rfl rfl ?_
    refine me_getI (pc' := 179) dX11_token_176 rfl fkX11_42 kd_352 (mm_ltm kd_352 hN) rfl ?_
    refine me_aload_n (pc' := 180) (i := 0) dX11_token_179 rfl rfl rfl ?_
    refine me_getI (pc' := 183) dX11_token_180 rfl fkX11_27 kd_352 (mm_ltm kd_352 hN) rfl ?_
    refine mm_jnI (fun (j219 : Unit → Option mm_H) => ∀ (_ : Unit), mm_E2 (mm_Sq q) (mm_Sq q) mX11_token 251 [some (.ref 352)] [] h20 (j219 ()) lf_v) ?_ (fun j21 j21p => ?_)
    · intro _
      refine me_aload_n (pc' := 252) (i := 0) dX11_token_251 rfl rfl rfl ?_
      refine me_aload_n (pc' := 253) (i := 0) dX11_token_252 rfl rfl rfl ?_
      refine me_getI (pc' := 256) dX11_token_253 rfl fkX11_42 kd_352 (mm_ltm kd_352 hN) rfl ?_
      refine me_aload_n (pc' := 257) (i := 0) dX11_token_256 rfl rfl rfl ?_
      refine me_getI (pc' := 260) dX11_token_257 rfl fkX11_48 kd_352 (mm_ltm kd_352 hN) rfl ?_
      refine me_isub (pc' := 261) dX11_token_260 rfl ?_
      refine me_iconst (pc' := 262) (v := 4) dX11_token_261 rfl kc_i4 ?_
      refine me_icmp_le (pc' := 265) (tgt := 269) dX11_token_262 (by decide) rfl (fun c22 => ?_) (fun c22 => ?_)
      · refine me_iconst (pc' := 270) (v := 2) dX11_token_269 rfl kc_i2 ?_
        refine me_putI (F' := (mm_Sq q)) (pc' := 273) dX11_token_270 rfl fkX11_45 kd_352 (mm_ltm kd_352 hN) rfl pgX11_11 (fun z => z) ?_
        refine mm_bnd (ms_I h20 352 11 2) (fun _ => [some (.ref 352)]) (fun _ => []) (fun h23 => h23) (fun h23 => ?_)
        exact me_vret dX11_token_273 rfl (fun z => z) rfl
      · refine me_iconst (pc' := 266) (v := 4) dX11_token_265 rfl kc_i4 ?_
        refine me_goto (tgt := 270) dX11_token_266 (by decide) ?_
        refine me_putI (F' := (mm_Sq q)) (pc' := 273) dX11_token_270 rfl fkX11_45 kd_352 (mm_ltm kd_352 hN) rfl pgX11_11 (fun z => z) ?_
        refine mm_bnd (ms_I h20 352 11 4) (fun _ => [some (.ref 352)]) (fun _ => []) (fun h24 => h24) (fun h24 => ?_)
        exact me_vret dX11_token_273 rfl (fun z => z) rfl
    refine me_icmp_ge (pc' := 186) (tgt := 251) dX11_token_183 (by decide) rfl (fun c25 => ?_) (fun c25 => ?_)
    · exact j21p ()
    · refine me_aload_n (pc' := 187) (i := 0) dX11_token_186 rfl rfl rfl ?_
      refine me_getR (pc' := 190) (q' := 355) dX11_token_187 rfl fkX11_24 kd_352 (mm_ltm kd_352 hN) rfl (mrX11_3 hN) ?_
      refine me_aload_n (pc' := 191) (i := 0) dX11_token_190 rfl rfl rfl ?_
      refine me_getI (pc' := 194) dX11_token_191 rfl fkX11_42 kd_352 (mm_ltm kd_352 hN) rfl ?_
      refine mm_guard (fun c26 => ?_)
      refine me_iald (pc' := 195) dX11_token_194 rfl kd_355 (mm_ltm kd_355 hN) (mm_ibd_of c26) ?_
      refine me_callS (As := [.int (mh_I h20 355 (Int32.toNatClampNeg ((mh_I h20 352 10))))]) (st := []) (F' := (mm_Sq q)) (G' := (mm_Sq q)) (F'' := (mm_Sq q)) (pc' := 198) dX11_token_195 rfl mfX11_isDigit rfl lkX11_154 ⟨Nat.le_of_ble_eq_true rfl, Nat.le_of_ble_eq_true rfl⟩ (Nat.le_of_ble_eq_true rfl) (fun z => z) (rX11_isDigit (q := q) ((mh_I h20 355 (Int32.toNatClampNeg ((mh_I h20 352 10))))) h20 hN) (fun x27 e28 => Or.inl ⟨_, _, rfl, fun z => z, ?_⟩)
      show mm_E2 _ _ _ _ _ [.int (mx_bi x27)] h20 _ _
      refine me_ifB_eq (pc' := 201) (tgt := 251) dX11_token_198 (by decide) rfl (fun c29 => ?_) (fun c29 => ?_)
      · exact j21p ()
      · refine me_aload_n (pc' := 202) (i := 0) dX11_token_201 rfl rfl rfl ?_
        refine me_getI (pc' := 205) dX11_token_202 rfl fkX11_42 kd_352 (mm_ltm kd_352 hN) rfl ?_
        refine me_aload_n (pc' := 206) (i := 0) dX11_token_205 rfl rfl rfl ?_
        refine me_getI (pc' := 209) dX11_token_206 rfl fkX11_48 kd_352 (mm_ltm kd_352 hN) rfl ?_
        refine me_isub (pc' := 210) dX11_token_209 rfl ?_
        refine me_iconst (pc' := 211) (v := 4) dX11_token_210 rfl kc_i4 ?_
        refine mm_jnI (fun (j319 : mm_H → Option mm_H) => ∀ (h30 : mm_H), mm_E2 (mm_Sq q) (mm_Sq q) mX11_token 238 [some (.ref 352)] [] h30 (j319 h30) lf_v) ?_ (fun j31 j31p => ?_)
        · intro h30
          refine me_aload_n (pc' := 239) (i := 0) dX11_token_238 rfl rfl rfl ?_
          refine me_dup (pc' := 240) dX11_token_239 rfl rfl ?_
          refine me_getI (pc' := 243) dX11_token_240 rfl fkX11_42 kd_352 (mm_ltm kd_352 hN) rfl ?_
          refine me_iconst (pc' := 244) (v := 1) dX11_token_243 rfl kc_i1 ?_
          refine me_iadd (pc' := 245) dX11_token_244 rfl ?_
          refine me_putI (F' := (mm_Sq q)) (pc' := 248) dX11_token_245 rfl fkX11_42 kd_352 (mm_ltm kd_352 hN) rfl pgX11_10 (fun z => z) ?_
          refine mm_bnd (ms_I h30 352 10 (((mh_I h30 352 10) + 1))) (fun _ => [some (.ref 352)]) (fun _ => []) (fun h32 => h32) (fun h32 => ?_)
          refine me_goto (tgt := 175) dX11_token_248 (by decide) ?_
          exact ih h32
        refine me_icmp_ge (pc' := 214) (tgt := 238) dX11_token_211 (by decide) rfl (fun c33 => ?_) (fun c33 => ?_)
        · exact j31p h20
        · refine me_aload_n (pc' := 215) (i := 0) dX11_token_214 rfl rfl rfl ?_
          refine me_aload_n (pc' := 216) (i := 0) dX11_token_215 rfl rfl rfl ?_
          refine me_getI (pc' := 219) dX11_token_216 rfl fkX11_51 kd_352 (mm_ltm kd_352 hN) rfl ?_
          refine me_bipush (pc' := 221) (v := 10) dX11_token_219 rfl kc_b10 ?_
          refine me_imul (pc' := 222) dX11_token_221 rfl ?_
          refine me_aload_n (pc' := 223) (i := 0) dX11_token_222 rfl rfl rfl ?_
          refine me_getR (pc' := 226) (q' := 355) dX11_token_223 rfl fkX11_24 kd_352 (mm_ltm kd_352 hN) rfl (mrX11_3 hN) ?_
          refine me_aload_n (pc' := 227) (i := 0) dX11_token_226 rfl rfl rfl ?_
          refine me_getI (pc' := 230) dX11_token_227 rfl fkX11_42 kd_352 (mm_ltm kd_352 hN) rfl ?_
          refine mm_guard (fun c34 => ?_)
          refine me_iald (pc' := 231) dX11_token_230 rfl kd_355 (mm_ltm kd_355 hN) (mm_ibd_of c34) ?_
          refine me_iadd (pc' := 232) dX11_token_231 rfl ?_
          refine me_bipush (pc' := 234) (v := 48) dX11_token_232 rfl kc_b48 ?_
          refine me_isub (pc' := 235) dX11_token_234 rfl ?_
          refine me_putI (F' := (mm_Sq q)) (pc' := 238) dX11_token_235 rfl fkX11_51 kd_352 (mm_ltm kd_352 hN) rfl pgX11_13 (fun z => z) ?_
          refine mm_bnd (ms_I h20 352 13 (((((mh_I h20 352 13) * 10) + (mh_I h20 355 (Int32.toNatClampNeg ((mh_I h20 352 10))))) - 48))) (fun _ => [some (.ref 352)]) (fun _ => []) (fun h35 => h35) (fun h35 => ?_)
          exact j31p h35
theorem rX11_token_L92 {q : Nat × Nat}      (hN : 358 ≤ q.1) : ∀ (n : Nat) (h36 : mm_H), mm_E2 (mm_Sq q) (mm_Sq q) mX11_token 92 [some (.ref 352)] [] h36 (gX11_token_L92  n h36) lf_v := by
  intro n
  induction n with
  | zero =>
    intro h36
    exact mm_none
  | succ n ih =>
    intro h36
    rw [gX11_token_L92]
    refine me_aload_n (pc' := 93) (i := 0) dX11_token_92 rfl rfl rfl ?_
    refine me_getI (pc' := 96) dX11_token_93 rfl fkX11_42 kd_352 (mm_ltm kd_352 hN) rfl ?_
    refine me_aload_n (pc' := 97) (i := 0) dX11_token_96 rfl rfl rfl ?_
    refine me_getI (pc' := 100) dX11_token_97 rfl fkX11_27 kd_352 (mm_ltm kd_352 hN) rfl ?_
    refine mm_jnI (fun (j379 : Unit → Option mm_H) => ∀ (_ : Unit), mm_E2 (mm_Sq q) (mm_Sq q) mX11_token 131 [some (.ref 352)] [] h36 (j379 ()) lf_v) ?_ (fun j37 j37p => ?_)
    · intro _
      refine me_aload_n (pc' := 132) (i := 0) dX11_token_131 rfl rfl rfl ?_
      refine me_aload_n (pc' := 133) (i := 0) dX11_token_132 rfl rfl rfl ?_
      refine me_getI (pc' := 136) dX11_token_133 rfl fkX11_42 kd_352 (mm_ltm kd_352 hN) rfl ?_
      refine me_aload_n (pc' := 137) (i := 0) dX11_token_136 rfl rfl rfl ?_
      refine me_getI (pc' := 140) dX11_token_137 rfl fkX11_48 kd_352 (mm_ltm kd_352 hN) rfl ?_
      refine me_isub (pc' := 141) dX11_token_140 rfl ?_
      refine me_bipush (pc' := 143) (v := 9) dX11_token_141 rfl kc_b9 ?_
      refine me_icmp_le (pc' := 146) (tgt := 150) dX11_token_143 (by decide) rfl (fun c38 => ?_) (fun c38 => ?_)
      · refine me_iconst (pc' := 151) (v := 1) dX11_token_150 rfl kc_i1 ?_
        refine me_putI (F' := (mm_Sq q)) (pc' := 154) dX11_token_151 rfl fkX11_45 kd_352 (mm_ltm kd_352 hN) rfl pgX11_11 (fun z => z) ?_
        refine mm_bnd (ms_I h36 352 11 1) (fun _ => [some (.ref 352)]) (fun _ => []) (fun h39 => h39) (fun h39 => ?_)
        exact me_vret dX11_token_154 rfl (fun z => z) rfl
      · refine me_iconst (pc' := 147) (v := 4) dX11_token_146 rfl kc_i4 ?_
        refine me_goto (tgt := 151) dX11_token_147 (by decide) ?_
        refine me_putI (F' := (mm_Sq q)) (pc' := 154) dX11_token_151 rfl fkX11_45 kd_352 (mm_ltm kd_352 hN) rfl pgX11_11 (fun z => z) ?_
        refine mm_bnd (ms_I h36 352 11 4) (fun _ => [some (.ref 352)]) (fun _ => []) (fun h40 => h40) (fun h40 => ?_)
        exact me_vret dX11_token_154 rfl (fun z => z) rfl
    refine me_icmp_ge (pc' := 103) (tgt := 131) dX11_token_100 (by decide) rfl (fun c41 => ?_) (fun c41 => ?_)
    · exact j37p ()
    · refine me_aload_n (pc' := 104) (i := 0) dX11_token_103 rfl rfl rfl ?_
      refine me_getR (pc' := 107) (q' := 355) dX11_token_104 rfl fkX11_24 kd_352 (mm_ltm kd_352 hN) rfl (mrX11_3 hN) ?_
      refine me_aload_n (pc' := 108) (i := 0) dX11_token_107 rfl rfl rfl ?_
      refine me_getI (pc' := 111) dX11_token_108 rfl fkX11_42 kd_352 (mm_ltm kd_352 hN) rfl ?_
      refine mm_guard (fun c42 => ?_)
      refine me_iald (pc' := 112) dX11_token_111 rfl kd_355 (mm_ltm kd_355 hN) (mm_ibd_of c42) ?_
      refine me_callS (As := [.int (mh_I h36 355 (Int32.toNatClampNeg ((mh_I h36 352 10))))]) (st := []) (F' := (mm_Sq q)) (G' := (mm_Sq q)) (F'' := (mm_Sq q)) (pc' := 115) dX11_token_112 rfl mfX11_isSmall rfl lkX11_151 ⟨Nat.le_of_ble_eq_true rfl, Nat.le_of_ble_eq_true rfl⟩ (Nat.le_of_ble_eq_true rfl) (fun z => z) (rX11_isSmall (q := q) ((mh_I h36 355 (Int32.toNatClampNeg ((mh_I h36 352 10))))) h36 hN) (fun x43 e44 => Or.inl ⟨_, _, rfl, fun z => z, ?_⟩)
      show mm_E2 _ _ _ _ _ [.int (mx_bi x43)] h36 _ _
      refine me_ifB_eq (pc' := 118) (tgt := 131) dX11_token_115 (by decide) rfl (fun c45 => ?_) (fun c45 => ?_)
      · exact j37p ()
      · refine me_aload_n (pc' := 119) (i := 0) dX11_token_118 rfl rfl rfl ?_
        refine me_dup (pc' := 120) dX11_token_119 rfl rfl ?_
        refine me_getI (pc' := 123) dX11_token_120 rfl fkX11_42 kd_352 (mm_ltm kd_352 hN) rfl ?_
        refine me_iconst (pc' := 124) (v := 1) dX11_token_123 rfl kc_i1 ?_
        refine me_iadd (pc' := 125) dX11_token_124 rfl ?_
        refine me_putI (F' := (mm_Sq q)) (pc' := 128) dX11_token_125 rfl fkX11_42 kd_352 (mm_ltm kd_352 hN) rfl pgX11_10 (fun z => z) ?_
        refine mm_bnd (ms_I h36 352 10 (((mh_I h36 352 10) + 1))) (fun _ => [some (.ref 352)]) (fun _ => []) (fun h46 => h46) (fun h46 => ?_)
        refine me_goto (tgt := 92) dX11_token_128 (by decide) ?_
        exact ih h46
theorem rX11_token_L0 {q : Nat × Nat}      (hN : 358 ≤ q.1) : ∀ (n : Nat) (h52 : mm_H), mm_E2 (mm_Sq q) (mm_Sq q) mX11_token 0 [some (.ref 352)] [] h52 (gX11_token_L0  n h52) lf_v := by
  intro n
  induction n with
  | zero =>
    intro h52
    exact mm_none
  | succ n ih =>
    intro h52
    rw [gX11_token_L0]
    refine me_aload_n (pc' := 1) (i := 0) dX11_token_0 rfl rfl rfl ?_
    refine me_getI (pc' := 4) dX11_token_1 rfl fkX11_42 kd_352 (mm_ltm kd_352 hN) rfl ?_
    refine me_aload_n (pc' := 5) (i := 0) dX11_token_4 rfl rfl rfl ?_
    refine me_getI (pc' := 8) dX11_token_5 rfl fkX11_27 kd_352 (mm_ltm kd_352 hN) rfl ?_
    refine mm_jnI (fun (j539 : Unit → Option mm_H) => ∀ (_ : Unit), mm_E2 (mm_Sq q) (mm_Sq q) mX11_token 52 [some (.ref 352)] [] h52 (j539 ()) lf_v) ?_ (fun j53 j53p => ?_)
    · intro _
      refine me_aload_n (pc' := 53) (i := 0) dX11_token_52 rfl rfl rfl ?_
      refine me_aload_n (pc' := 54) (i := 0) dX11_token_53 rfl rfl rfl ?_
      refine me_getI (pc' := 57) dX11_token_54 rfl fkX11_42 kd_352 (mm_ltm kd_352 hN) rfl ?_
      refine me_putI (F' := (mm_Sq q)) (pc' := 60) dX11_token_57 rfl fkX11_48 kd_352 (mm_ltm kd_352 hN) rfl pgX11_12 (fun z => z) ?_
      refine mm_bnd (ms_I h52 352 12 ((mh_I h52 352 10))) (fun _ => [some (.ref 352)]) (fun _ => []) (fun h54 => h54) (fun h54 => ?_)
      refine me_aload_n (pc' := 61) (i := 0) dX11_token_60 rfl rfl rfl ?_
      refine me_getI (pc' := 64) dX11_token_61 rfl fkX11_42 kd_352 (mm_ltm kd_352 hN) rfl ?_
      refine me_aload_n (pc' := 65) (i := 0) dX11_token_64 rfl rfl rfl ?_
      refine me_getI (pc' := 68) dX11_token_65 rfl fkX11_27 kd_352 (mm_ltm kd_352 hN) rfl ?_
      refine me_icmp_ne (pc' := 71) (tgt := 77) dX11_token_68 (by decide) rfl (fun c55 => ?_) (fun c55 => ?_)
      · refine me_aload_n (pc' := 78) (i := 0) dX11_token_77 rfl rfl rfl ?_
        refine me_getR (pc' := 81) (q' := 355) dX11_token_78 rfl fkX11_24 kd_352 (mm_ltm kd_352 hN) rfl (mrX11_3 hN) ?_
        refine me_aload_n (pc' := 82) (i := 0) dX11_token_81 rfl rfl rfl ?_
        refine me_getI (pc' := 85) dX11_token_82 rfl fkX11_42 kd_352 (mm_ltm kd_352 hN) rfl ?_
        refine mm_guard (fun c56 => ?_)
        refine me_iald (pc' := 86) dX11_token_85 rfl kd_355 (mm_ltm kd_355 hN) (mm_ibd_of c56) ?_
        refine me_callS (As := [.int (mh_I h54 355 (Int32.toNatClampNeg ((mh_I h54 352 10))))]) (st := []) (F' := (mm_Sq q)) (G' := (mm_Sq q)) (F'' := (mm_Sq q)) (pc' := 89) dX11_token_86 rfl mfX11_isSmall rfl lkX11_151 ⟨Nat.le_of_ble_eq_true rfl, Nat.le_of_ble_eq_true rfl⟩ (Nat.le_of_ble_eq_true rfl) (fun z => z) (rX11_isSmall (q := q) ((mh_I h54 355 (Int32.toNatClampNeg ((mh_I h54 352 10))))) h54 hN) (fun x57 e58 => Or.inl ⟨_, _, rfl, fun z => z, ?_⟩)
        show mm_E2 _ _ _ _ _ [.int (mx_bi x57)] h54 _ _
        refine me_ifB_eq (pc' := 92) (tgt := 155) dX11_token_89 (by decide) rfl (fun c59 => ?_) (fun c59 => ?_)
        · refine me_aload_n (pc' := 156) (i := 0) dX11_token_155 rfl rfl rfl ?_
          refine me_getR (pc' := 159) (q' := 355) dX11_token_156 rfl fkX11_24 kd_352 (mm_ltm kd_352 hN) rfl (mrX11_3 hN) ?_
          refine me_aload_n (pc' := 160) (i := 0) dX11_token_159 rfl rfl rfl ?_
          refine me_getI (pc' := 163) dX11_token_160 rfl fkX11_42 kd_352 (mm_ltm kd_352 hN) rfl ?_
          refine mm_guard (fun c60 => ?_)
          refine me_iald (pc' := 164) dX11_token_163 rfl kd_355 (mm_ltm kd_355 hN) (mm_ibd_of c60) ?_
          refine me_callS (As := [.int (mh_I h54 355 (Int32.toNatClampNeg ((mh_I h54 352 10))))]) (st := []) (F' := (mm_Sq q)) (G' := (mm_Sq q)) (F'' := (mm_Sq q)) (pc' := 167) dX11_token_164 rfl mfX11_isDigit rfl lkX11_154 ⟨Nat.le_of_ble_eq_true rfl, Nat.le_of_ble_eq_true rfl⟩ (Nat.le_of_ble_eq_true rfl) (fun z => z) (rX11_isDigit (q := q) ((mh_I h54 355 (Int32.toNatClampNeg ((mh_I h54 352 10))))) h54 hN) (fun x61 e62 => Or.inl ⟨_, _, rfl, fun z => z, ?_⟩)
          show mm_E2 _ _ _ _ _ [.int (mx_bi x61)] h54 _ _
          refine me_ifB_eq (pc' := 170) (tgt := 274) dX11_token_167 (by decide) rfl (fun c63 => ?_) (fun c63 => ?_)
          · refine me_aload_n (pc' := 275) (i := 0) dX11_token_274 rfl rfl rfl ?_
            refine me_aload_n (pc' := 276) (i := 0) dX11_token_275 rfl rfl rfl ?_
            refine me_getR (pc' := 279) (q' := 355) dX11_token_276 rfl fkX11_24 kd_352 (mm_ltm kd_352 hN) rfl (mrX11_3 hN) ?_
            refine me_aload_n (pc' := 280) (i := 0) dX11_token_279 rfl rfl rfl ?_
            refine me_getI (pc' := 283) dX11_token_280 rfl fkX11_42 kd_352 (mm_ltm kd_352 hN) rfl ?_
            refine mm_guard (fun c64 => ?_)
            refine me_iald (pc' := 284) dX11_token_283 rfl kd_355 (mm_ltm kd_355 hN) (mm_ibd_of c64) ?_
            refine me_bipush (pc' := 286) (v := 59) dX11_token_284 rfl kc_b59 ?_
            refine mm_jnI (fun (j679 : Int32 → Option mm_H) => ∀ (y65 : Int32), mm_E2 (mm_Sq q) (mm_Sq q) mX11_token 294 [some (.ref 352)] [.int y65, .ref 352] h54 (j679 y65) lf_v) ?_ (fun j67 j67p => ?_)
            · intro y65
              refine me_putI (F' := (mm_Sq q)) (pc' := 297) dX11_token_294 rfl fkX11_45 kd_352 (mm_ltm kd_352 hN) rfl pgX11_11 (fun z => z) ?_
              refine mm_bnd (ms_I h54 352 11 y65) (fun _ => [some (.ref 352)]) (fun _ => []) (fun h68 => h68) (fun h68 => ?_)
              refine me_aload_n (pc' := 298) (i := 0) dX11_token_297 rfl rfl rfl ?_
              refine me_dup (pc' := 299) dX11_token_298 rfl rfl ?_
              refine me_getI (pc' := 302) dX11_token_299 rfl fkX11_42 kd_352 (mm_ltm kd_352 hN) rfl ?_
              refine me_iconst (pc' := 303) (v := 1) dX11_token_302 rfl kc_i1 ?_
              refine me_iadd (pc' := 304) dX11_token_303 rfl ?_
              refine me_putI (F' := (mm_Sq q)) (pc' := 307) dX11_token_304 rfl fkX11_42 kd_352 (mm_ltm kd_352 hN) rfl pgX11_10 (fun z => z) ?_
              refine mm_bnd (ms_I h68 352 10 (((mh_I h68 352 10) + 1))) (fun _ => [some (.ref 352)]) (fun _ => []) (fun h69 => h69) (fun h69 => ?_)
              exact me_vret dX11_token_307 rfl (fun z => z) rfl
            refine me_icmp_ne (pc' := 289) (tgt := 293) dX11_token_286 (by decide) rfl (fun c70 => ?_) (fun c70 => ?_)
            · refine me_iconst (pc' := 294) (v := 4) dX11_token_293 rfl kc_i4 ?_
              exact j67p 4
            · refine me_iconst (pc' := 290) (v := 3) dX11_token_289 rfl kc_i3 ?_
              refine me_goto (tgt := 294) dX11_token_290 (by decide) ?_
              exact j67p 3
          · refine me_aload_n (pc' := 171) (i := 0) dX11_token_170 rfl rfl rfl ?_
            refine me_iconst (pc' := 172) (v := 0) dX11_token_171 rfl kc_i0 ?_
            refine me_putI (F' := (mm_Sq q)) (pc' := 175) dX11_token_172 rfl fkX11_51 kd_352 (mm_ltm kd_352 hN) rfl pgX11_13 (fun z => z) ?_
            refine mm_bnd (ms_I h54 352 13 0) (fun _ => [some (.ref 352)]) (fun _ => []) (fun h71 => h71) (fun h71 => ?_)
            exact rX11_token_L175 (q := q) hN mm_F h71
        · exact rX11_token_L92 (q := q) hN mm_F h54
      · refine me_aload_n (pc' := 72) (i := 0) dX11_token_71 rfl rfl rfl ?_
        refine me_iconst (pc' := 73) (v := 0) dX11_token_72 rfl kc_i0 ?_
        refine me_putI (F' := (mm_Sq q)) (pc' := 76) dX11_token_73 rfl fkX11_45 kd_352 (mm_ltm kd_352 hN) rfl pgX11_11 (fun z => z) ?_
        refine mm_bnd (ms_I h54 352 11 0) (fun _ => [some (.ref 352)]) (fun _ => []) (fun h72 => h72) (fun h72 => ?_)
        exact me_vret dX11_token_76 rfl (fun z => z) rfl
    refine me_icmp_ge (pc' := 11) (tgt := 52) dX11_token_8 (by decide) rfl (fun c73 => ?_) (fun c73 => ?_)
    · exact j53p ()
    · refine me_aload_n (pc' := 12) (i := 0) dX11_token_11 rfl rfl rfl ?_
      refine me_getR (pc' := 15) (q' := 355) dX11_token_12 rfl fkX11_24 kd_352 (mm_ltm kd_352 hN) rfl (mrX11_3 hN) ?_
      refine me_aload_n (pc' := 16) (i := 0) dX11_token_15 rfl rfl rfl ?_
      refine me_getI (pc' := 19) dX11_token_16 rfl fkX11_42 kd_352 (mm_ltm kd_352 hN) rfl ?_
      refine mm_guard (fun c74 => ?_)
      refine me_iald (pc' := 20) dX11_token_19 rfl kd_355 (mm_ltm kd_355 hN) (mm_ibd_of c74) ?_
      refine me_bipush (pc' := 22) (v := 32) dX11_token_20 rfl kc_b32 ?_
      refine mm_jnI (fun (j759 : Unit → Option mm_H) => ∀ (_ : Unit), mm_E2 (mm_Sq q) (mm_Sq q) mX11_token 39 [some (.ref 352)] [] h52 (j759 ()) lf_v) ?_ (fun j75 j75p => ?_)
      · intro _
        refine me_aload_n (pc' := 40) (i := 0) dX11_token_39 rfl rfl rfl ?_
        refine me_dup (pc' := 41) dX11_token_40 rfl rfl ?_
        refine me_getI (pc' := 44) dX11_token_41 rfl fkX11_42 kd_352 (mm_ltm kd_352 hN) rfl ?_
        refine me_iconst (pc' := 45) (v := 1) dX11_token_44 rfl kc_i1 ?_
        refine me_iadd (pc' := 46) dX11_token_45 rfl ?_
        refine me_putI (F' := (mm_Sq q)) (pc' := 49) dX11_token_46 rfl fkX11_42 kd_352 (mm_ltm kd_352 hN) rfl pgX11_10 (fun z => z) ?_
        refine mm_bnd (ms_I h52 352 10 (((mh_I h52 352 10) + 1))) (fun _ => [some (.ref 352)]) (fun _ => []) (fun h76 => h76) (fun h76 => ?_)
        refine me_goto (tgt := 0) dX11_token_49 (by decide) ?_
        exact ih h76
      refine me_icmp_eq (pc' := 25) (tgt := 39) dX11_token_22 (by decide) rfl (fun c77 => ?_) (fun c77 => ?_)
      · exact j75p ()
      · refine me_aload_n (pc' := 26) (i := 0) dX11_token_25 rfl rfl rfl ?_
        refine me_getR (pc' := 29) (q' := 355) dX11_token_26 rfl fkX11_24 kd_352 (mm_ltm kd_352 hN) rfl (mrX11_3 hN) ?_
        refine me_aload_n (pc' := 30) (i := 0) dX11_token_29 rfl rfl rfl ?_
        refine me_getI (pc' := 33) dX11_token_30 rfl fkX11_42 kd_352 (mm_ltm kd_352 hN) rfl ?_
        refine mm_guard (fun c78 => ?_)
        refine me_iald (pc' := 34) dX11_token_33 rfl kd_355 (mm_ltm kd_355 hN) (mm_ibd_of c78) ?_
        refine me_bipush (pc' := 36) (v := 10) dX11_token_34 rfl kc_b10 ?_
        refine me_icmp_ne (pc' := 39) (tgt := 52) dX11_token_36 (by decide) rfl (fun c79 => ?_) (fun c79 => ?_)
        · exact j53p ()
        · exact j75p ()
theorem rX11_token {q : Nat × Nat} (h : mm_H) (hN : 358 ≤ q.1) : mm_R2 (mm_Sq q) (mm_Sq q) mX11_token [.ref 352] h (gX11_token h) lf_v := by
  refine mm_body (L := [some (.ref 352)]) rfl (by decide +kernel) (Nat.le_of_ble_eq_true rfl) rfl ?_
  unfold gX11_token
  refine me_aload_n (pc' := 1) (i := 0) dX11_token_0 rfl rfl rfl ?_
  refine me_getI (pc' := 4) dX11_token_1 rfl fkX11_42 kd_352 (mm_ltm kd_352 hN) rfl ?_
  refine me_aload_n (pc' := 5) (i := 0) dX11_token_4 rfl rfl rfl ?_
  refine me_getI (pc' := 8) dX11_token_5 rfl fkX11_27 kd_352 (mm_ltm kd_352 hN) rfl ?_
  refine mm_jnI (fun (j19 : Unit → Option mm_H) => ∀ (_ : Unit), mm_E2 (mm_Sq q) (mm_Sq q) mX11_token 52 [some (.ref 352)] [] h (j19 ()) lf_v) ?_ (fun j1 j1p => ?_)
  · intro _
    refine me_aload_n (pc' := 53) (i := 0) dX11_token_52 rfl rfl rfl ?_
    refine me_aload_n (pc' := 54) (i := 0) dX11_token_53 rfl rfl rfl ?_
    refine me_getI (pc' := 57) dX11_token_54 rfl fkX11_42 kd_352 (mm_ltm kd_352 hN) rfl ?_
    refine me_putI (F' := (mm_Sq q)) (pc' := 60) dX11_token_57 rfl fkX11_48 kd_352 (mm_ltm kd_352 hN) rfl pgX11_12 (fun z => z) ?_
    refine mm_bnd (ms_I h 352 12 ((mh_I h 352 10))) (fun _ => [some (.ref 352)]) (fun _ => []) (fun h2 => h2) (fun h2 => ?_)
    refine me_aload_n (pc' := 61) (i := 0) dX11_token_60 rfl rfl rfl ?_
    refine me_getI (pc' := 64) dX11_token_61 rfl fkX11_42 kd_352 (mm_ltm kd_352 hN) rfl ?_
    refine me_aload_n (pc' := 65) (i := 0) dX11_token_64 rfl rfl rfl ?_
    refine me_getI (pc' := 68) dX11_token_65 rfl fkX11_27 kd_352 (mm_ltm kd_352 hN) rfl ?_
    refine me_icmp_ne (pc' := 71) (tgt := 77) dX11_token_68 (by decide) rfl (fun c3 => ?_) (fun c3 => ?_)
    · refine me_aload_n (pc' := 78) (i := 0) dX11_token_77 rfl rfl rfl ?_
      refine me_getR (pc' := 81) (q' := 355) dX11_token_78 rfl fkX11_24 kd_352 (mm_ltm kd_352 hN) rfl (mrX11_3 hN) ?_
      refine me_aload_n (pc' := 82) (i := 0) dX11_token_81 rfl rfl rfl ?_
      refine me_getI (pc' := 85) dX11_token_82 rfl fkX11_42 kd_352 (mm_ltm kd_352 hN) rfl ?_
      refine mm_guard (fun c4 => ?_)
      refine me_iald (pc' := 86) dX11_token_85 rfl kd_355 (mm_ltm kd_355 hN) (mm_ibd_of c4) ?_
      refine me_callS (As := [.int (mh_I h2 355 (Int32.toNatClampNeg ((mh_I h2 352 10))))]) (st := []) (F' := (mm_Sq q)) (G' := (mm_Sq q)) (F'' := (mm_Sq q)) (pc' := 89) dX11_token_86 rfl mfX11_isSmall rfl lkX11_151 ⟨Nat.le_of_ble_eq_true rfl, Nat.le_of_ble_eq_true rfl⟩ (Nat.le_of_ble_eq_true rfl) (fun z => z) (rX11_isSmall (q := q) ((mh_I h2 355 (Int32.toNatClampNeg ((mh_I h2 352 10))))) h2 hN) (fun x5 e6 => Or.inl ⟨_, _, rfl, fun z => z, ?_⟩)
      show mm_E2 _ _ _ _ _ [.int (mx_bi x5)] h2 _ _
      refine me_ifB_eq (pc' := 92) (tgt := 155) dX11_token_89 (by decide) rfl (fun c7 => ?_) (fun c7 => ?_)
      · refine me_aload_n (pc' := 156) (i := 0) dX11_token_155 rfl rfl rfl ?_
        refine me_getR (pc' := 159) (q' := 355) dX11_token_156 rfl fkX11_24 kd_352 (mm_ltm kd_352 hN) rfl (mrX11_3 hN) ?_
        refine me_aload_n (pc' := 160) (i := 0) dX11_token_159 rfl rfl rfl ?_
        refine me_getI (pc' := 163) dX11_token_160 rfl fkX11_42 kd_352 (mm_ltm kd_352 hN) rfl ?_
        refine mm_guard (fun c8 => ?_)
        refine me_iald (pc' := 164) dX11_token_163 rfl kd_355 (mm_ltm kd_355 hN) (mm_ibd_of c8) ?_
        refine me_callS (As := [.int (mh_I h2 355 (Int32.toNatClampNeg ((mh_I h2 352 10))))]) (st := []) (F' := (mm_Sq q)) (G' := (mm_Sq q)) (F'' := (mm_Sq q)) (pc' := 167) dX11_token_164 rfl mfX11_isDigit rfl lkX11_154 ⟨Nat.le_of_ble_eq_true rfl, Nat.le_of_ble_eq_true rfl⟩ (Nat.le_of_ble_eq_true rfl) (fun z => z) (rX11_isDigit (q := q) ((mh_I h2 355 (Int32.toNatClampNeg ((mh_I h2 352 10))))) h2 hN) (fun x9 e10 => Or.inl ⟨_, _, rfl, fun z => z, ?_⟩)
        show mm_E2 _ _ _ _ _ [.int (mx_bi x9)] h2 _ _
        refine me_ifB_eq (pc' := 170) (tgt := 274) dX11_token_167 (by decide) rfl (fun c11 => ?_) (fun c11 => ?_)
        · refine me_aload_n (pc' := 275) (i := 0) dX11_token_274 rfl rfl rfl ?_
          refine me_aload_n (pc' := 276) (i := 0) dX11_token_275 rfl rfl rfl ?_
          refine me_getR (pc' := 279) (q' := 355) dX11_token_276 rfl fkX11_24 kd_352 (mm_ltm kd_352 hN) rfl (mrX11_3 hN) ?_
          refine me_aload_n (pc' := 280) (i := 0) dX11_token_279 rfl rfl rfl ?_
          refine me_getI (pc' := 283) dX11_token_280 rfl fkX11_42 kd_352 (mm_ltm kd_352 hN) rfl ?_
          refine mm_guard (fun c12 => ?_)
          refine me_iald (pc' := 284) dX11_token_283 rfl kd_355 (mm_ltm kd_355 hN) (mm_ibd_of c12) ?_
          refine me_bipush (pc' := 286) (v := 59) dX11_token_284 rfl kc_b59 ?_
          refine mm_jnI (fun (j159 : Int32 → Option mm_H) => ∀ (y13 : Int32), mm_E2 (mm_Sq q) (mm_Sq q) mX11_token 294 [some (.ref 352)] [.int y13, .ref 352] h2 (j159 y13) lf_v) ?_ (fun j15 j15p => ?_)
          · intro y13
            refine me_putI (F' := (mm_Sq q)) (pc' := 297) dX11_token_294 rfl fkX11_45 kd_352 (mm_ltm kd_352 hN) rfl pgX11_11 (fun z => z) ?_
            refine mm_bnd (ms_I h2 352 11 y13) (fun _ => [some (.ref 352)]) (fun _ => []) (fun h16 => h16) (fun h16 => ?_)
            refine me_aload_n (pc' := 298) (i := 0) dX11_token_297 rfl rfl rfl ?_
            refine me_dup (pc' := 299) dX11_token_298 rfl rfl ?_
            refine me_getI (pc' := 302) dX11_token_299 rfl fkX11_42 kd_352 (mm_ltm kd_352 hN) rfl ?_
            refine me_iconst (pc' := 303) (v := 1) dX11_token_302 rfl kc_i1 ?_
            refine me_iadd (pc' := 304) dX11_token_303 rfl ?_
            refine me_putI (F' := (mm_Sq q)) (pc' := 307) dX11_token_304 rfl fkX11_42 kd_352 (mm_ltm kd_352 hN) rfl pgX11_10 (fun z => z) ?_
            refine mm_bnd (ms_I h16 352 10 (((mh_I h16 352 10) + 1))) (fun _ => [some (.ref 352)]) (fun _ => []) (fun h17 => h17) (fun h17 => ?_)
            exact me_vret dX11_token_307 rfl (fun z => z) rfl
          refine me_icmp_ne (pc' := 289) (tgt := 293) dX11_token_286 (by decide) rfl (fun c18 => ?_) (fun c18 => ?_)
          · refine me_iconst (pc' := 294) (v := 4) dX11_token_293 rfl kc_i4 ?_
            exact j15p 4
          · refine me_iconst (pc' := 290) (v := 3) dX11_token_289 rfl kc_i3 ?_
            refine me_goto (tgt := 294) dX11_token_290 (by decide) ?_
            exact j15p 3
        · refine me_aload_n (pc' := 171) (i := 0) dX11_token_170 rfl rfl rfl ?_
          refine me_iconst (pc' := 172) (v := 0) dX11_token_171 rfl kc_i0 ?_
          refine me_putI (F' := (mm_Sq q)) (pc' := 175) dX11_token_172 rfl fkX11_51 kd_352 (mm_ltm kd_352 hN) rfl pgX11_13 (fun z => z) ?_
          refine mm_bnd (ms_I h2 352 13 0) (fun _ => [some (.ref 352)]) (fun _ => []) (fun h19 => h19) (fun h19 => ?_)
          exact rX11_token_L175 (q := q) hN mm_F h19
      · exact rX11_token_L92 (q := q) hN mm_F h2
    · refine me_aload_n (pc' := 72) (i := 0) dX11_token_71 rfl rfl rfl ?_
      refine me_iconst (pc' := 73) (v := 0) dX11_token_72 rfl kc_i0 ?_
      refine me_putI (F' := (mm_Sq q)) (pc' := 76) dX11_token_73 rfl fkX11_45 kd_352 (mm_ltm kd_352 hN) rfl pgX11_11 (fun z => z) ?_
      refine mm_bnd (ms_I h2 352 11 0) (fun _ => [some (.ref 352)]) (fun _ => []) (fun h47 => h47) (fun h47 => ?_)
      exact me_vret dX11_token_76 rfl (fun z => z) rfl
  refine me_icmp_ge (pc' := 11) (tgt := 52) dX11_token_8 (by decide) rfl (fun c48 => ?_) (fun c48 => ?_)
  · exact j1p ()
  · refine me_aload_n (pc' := 12) (i := 0) dX11_token_11 rfl rfl rfl ?_
    refine me_getR (pc' := 15) (q' := 355) dX11_token_12 rfl fkX11_24 kd_352 (mm_ltm kd_352 hN) rfl (mrX11_3 hN) ?_
    refine me_aload_n (pc' := 16) (i := 0) dX11_token_15 rfl rfl rfl ?_
    refine me_getI (pc' := 19) dX11_token_16 rfl fkX11_42 kd_352 (mm_ltm kd_352 hN) rfl ?_
    refine mm_guard (fun c49 => ?_)
    refine me_iald (pc' := 20) dX11_token_19 rfl kd_355 (mm_ltm kd_355 hN) (mm_ibd_of c49) ?_
    refine me_bipush (pc' := 22) (v := 32) dX11_token_20 rfl kc_b32 ?_
    refine mm_jnI (fun (j509 : Unit → Option mm_H) => ∀ (_ : Unit), mm_E2 (mm_Sq q) (mm_Sq q) mX11_token 39 [some (.ref 352)] [] h (j509 ()) lf_v) ?_ (fun j50 j50p => ?_)
    · intro _
      refine me_aload_n (pc' := 40) (i := 0) dX11_token_39 rfl rfl rfl ?_
      refine me_dup (pc' := 41) dX11_token_40 rfl rfl ?_
      refine me_getI (pc' := 44) dX11_token_41 rfl fkX11_42 kd_352 (mm_ltm kd_352 hN) rfl ?_
      refine me_iconst (pc' := 45) (v := 1) dX11_token_44 rfl kc_i1 ?_
      refine me_iadd (pc' := 46) dX11_token_45 rfl ?_
      refine me_putI (F' := (mm_Sq q)) (pc' := 49) dX11_token_46 rfl fkX11_42 kd_352 (mm_ltm kd_352 hN) rfl pgX11_10 (fun z => z) ?_
      refine mm_bnd (ms_I h 352 10 (((mh_I h 352 10) + 1))) (fun _ => [some (.ref 352)]) (fun _ => []) (fun h51 => h51) (fun h51 => ?_)
      refine me_goto (tgt := 0) dX11_token_49 (by decide) ?_
      exact rX11_token_L0 (q := q) hN mm_F h51
    refine me_icmp_eq (pc' := 25) (tgt := 39) dX11_token_22 (by decide) rfl (fun c80 => ?_) (fun c80 => ?_)
    · exact j50p ()
    · refine me_aload_n (pc' := 26) (i := 0) dX11_token_25 rfl rfl rfl ?_
      refine me_getR (pc' := 29) (q' := 355) dX11_token_26 rfl fkX11_24 kd_352 (mm_ltm kd_352 hN) rfl (mrX11_3 hN) ?_
      refine me_aload_n (pc' := 30) (i := 0) dX11_token_29 rfl rfl rfl ?_
      refine me_getI (pc' := 33) dX11_token_30 rfl fkX11_42 kd_352 (mm_ltm kd_352 hN) rfl ?_
      refine mm_guard (fun c81 => ?_)
      refine me_iald (pc' := 34) dX11_token_33 rfl kd_355 (mm_ltm kd_355 hN) (mm_ibd_of c81) ?_
      refine me_bipush (pc' := 36) (v := 10) dX11_token_34 rfl kc_b10 ?_
      refine me_icmp_ne (pc' := 39) (tgt := 52) dX11_token_36 (by decide) rfl (fun c82 => ?_) (fun c82 => ?_)
      · exact j1p ()
      · exact j50p ()
def gX11_begin (h : mm_H) : Option mm_H :=
(some (ms_I h 352 5 0)).bind (fun (h1 : mm_H) =>
(some (ms_I h1 352 6 (-1))).bind (fun (h2 : mm_H) =>
(some (ms_I h2 352 10 0)).bind (fun (h3 : mm_H) =>
(gX11_token h3).bind (fun (h4 : mm_H) =>
some h4))))
theorem rX11_begin {q : Nat × Nat} (h : mm_H) (hN : 358 ≤ q.1) : mm_R2 (mm_Sq q) (mm_Sq q) mX11_begin [.ref 352] h (gX11_begin h) lf_v := by
  refine mm_body (L := [some (.ref 352)]) rfl (by decide +kernel) (Nat.le_of_ble_eq_true rfl) rfl ?_
  unfold gX11_begin
  refine me_aload_n (pc' := 1) (i := 0) dX11_begin_0 rfl rfl rfl ?_
  refine me_iconst (pc' := 2) (v := 0) dX11_begin_1 rfl kc_i0 ?_
  refine me_putI (F' := (mm_Sq q)) (pc' := 5) dX11_begin_2 rfl fkX11_30 kd_352 (mm_ltm kd_352 hN) rfl pgX11_5 (fun z => z) ?_
  refine mm_bnd (ms_I h 352 5 0) (fun _ => [some (.ref 352)]) (fun _ => []) (fun h1 => h1) (fun h1 => ?_)
  refine me_aload_n (pc' := 6) (i := 0) dX11_begin_5 rfl rfl rfl ?_
  refine me_iconst (pc' := 7) (v := (-1)) dX11_begin_6 rfl kc_im1 ?_
  refine me_putI (F' := (mm_Sq q)) (pc' := 10) dX11_begin_7 rfl fkX11_33 kd_352 (mm_ltm kd_352 hN) rfl pgX11_6 (fun z => z) ?_
  refine mm_bnd (ms_I h1 352 6 (-1)) (fun _ => [some (.ref 352)]) (fun _ => []) (fun h2 => h2) (fun h2 => ?_)
  refine me_aload_n (pc' := 11) (i := 0) dX11_begin_10 rfl rfl rfl ?_
  refine me_iconst (pc' := 12) (v := 0) dX11_begin_11 rfl kc_i0 ?_
  refine me_putI (F' := (mm_Sq q)) (pc' := 15) dX11_begin_12 rfl fkX11_42 kd_352 (mm_ltm kd_352 hN) rfl pgX11_10 (fun z => z) ?_
  refine mm_bnd (ms_I h2 352 10 0) (fun _ => [some (.ref 352)]) (fun _ => []) (fun h3 => h3) (fun h3 => ?_)
  refine me_aload_n (pc' := 16) (i := 0) dX11_begin_15 rfl rfl rfl ?_
  refine me_callV (As := []) (st := []) (F' := (mm_Sq q)) (G' := (mm_Sq q)) (F'' := (mm_Sq q)) (pc' := 19) dX11_begin_16 rfl mfX11_token rfl lkX11_157 kd_352 rfl (mm_ltm kd_352 hN) ⟨Nat.le_of_ble_eq_true rfl, Nat.le_of_ble_eq_true rfl⟩ (Nat.le_of_ble_eq_true rfl) (fun z => z) (rX11_token (q := q) h3 hN) (fun h4 e5 => Or.inl ⟨_, _, rfl, fun z => z, ?_⟩)
  show mm_E2 _ _ _ _ _ [] h4 _ _
  exact me_vret dX11_begin_19 rfl (fun z => z) rfl
def gX11_isWord_L28 (p0 : Nat) (h : mm_H) : Nat → Int32 → Option Bool
  | 0, _ => none
  | n + 1, w3 =>
    if w3 < (mm_sl p0) then
    if mm_ibd (((mh_I h 352 12) + w3)) 600 = true then
    if mm_ibd w3 (mm_sn p0) = true then
    if (mh_I h 355 (Int32.toNatClampNeg (((mh_I h 352 12) + w3)))) = (mm_sc p0 w3) then
    (some (w3 + 1)).bind (fun (x8 : Int32) =>
    gX11_isWord_L28 p0 h n x8)
    else
    some false else none else none
    else
    some true
def gX11_isWord (p0 : Nat) (h : mm_H) : Option Bool :=
if (mh_I h 352 11) = 1 then
if ((mh_I h 352 10) - (mh_I h 352 12)) = (mm_sl p0) then
gX11_isWord_L28 p0 h mm_F 0
else
some false
else
some false
theorem rX11_isWord_L28 {q : Nat × Nat} (p0 : Nat)   (h : mm_H) (hp0 : p0 < 43) (hN : 358 ≤ q.1) : ∀ (n : Nat) (w3 : Int32), mm_E2 (mm_Sq q) (mm_Sq q) mX11_isWord 28 [some (.ref 352), some (.ref (361 + p0)), some (.int w3)] [] h (gX11_isWord_L28 p0 h n w3) (lf_z h) := by
  intro n
  induction n with
  | zero =>
    intro w3
    exact mm_none
  | succ n ih =>
    intro w3
    rw [gX11_isWord_L28]
    refine me_iload_n (pc' := 29) (i := 2) dX11_isWord_28 rfl rfl rfl ?_
    refine me_aload_n (pc' := 30) (i := 1) dX11_isWord_29 rfl rfl rfl ?_
    refine me_slen (pc' := 33) dX11_isWord_30 rfl ljX11_59 hp0 ⟨Nat.le_of_ble_eq_true rfl, Nat.le_of_ble_eq_true rfl⟩ (Nat.le_of_ble_eq_true rfl) ?_
    refine me_icmp_ge (pc' := 36) (tgt := 63) dX11_isWord_33 (by decide) rfl (fun c4 => ?_) (fun c4 => ?_)
    · refine me_iconst (pc' := 64) (v := 1) dX11_isWord_63 rfl kc_i1 ?_
      exact me_zret (b := true) dX11_isWord_64 rfl (fun z => z) rfl
    · refine me_aload_n (pc' := 37) (i := 0) dX11_isWord_36 rfl rfl rfl ?_
      refine me_getR (pc' := 40) (q' := 355) dX11_isWord_37 rfl fkX11_24 kd_352 (mm_ltm kd_352 hN) rfl (mrX11_3 hN) ?_
      refine me_aload_n (pc' := 41) (i := 0) dX11_isWord_40 rfl rfl rfl ?_
      refine me_getI (pc' := 44) dX11_isWord_41 rfl fkX11_48 kd_352 (mm_ltm kd_352 hN) rfl ?_
      refine me_iload_n (pc' := 45) (i := 2) dX11_isWord_44 rfl rfl rfl ?_
      refine me_iadd (pc' := 46) dX11_isWord_45 rfl ?_
      refine mm_guard (fun c5 => ?_)
      refine me_iald (pc' := 47) dX11_isWord_46 rfl kd_355 (mm_ltm kd_355 hN) (mm_ibd_of c5) ?_
      refine me_aload_n (pc' := 48) (i := 1) dX11_isWord_47 rfl rfl rfl ?_
      refine me_iload_n (pc' := 49) (i := 2) dX11_isWord_48 rfl rfl rfl ?_
      refine mm_guard (fun c6 => ?_)
      refine me_schar (pc' := 52) dX11_isWord_49 rfl ljX11_64 hp0 (mm_ibd_of c6) ⟨Nat.le_of_ble_eq_true rfl, Nat.le_of_ble_eq_true rfl⟩ (Nat.le_of_ble_eq_true rfl) ?_
      refine me_icmp_eq (pc' := 55) (tgt := 57) dX11_isWord_52 (by decide) rfl (fun c7 => ?_) (fun c7 => ?_)
      · refine me_iinc (pc' := 60) (i := 2) (x := w3) (y := w3 + 1) (L' := [some (.ref 352), some (.ref (361 + p0)), some (.int (w3 + 1))]) dX11_isWord_57 rfl (Nat.le_of_ble_eq_true rfl) (Nat.le_of_ble_eq_true rfl) rfl (kc_plus kc_i1) rfl ?_
        refine mm_bnd (w3 + 1) (fun x8 => [some (.ref 352), some (.ref (361 + p0)), some (.int x8)]) (fun _ => []) (fun _ => h) (fun x8 => ?_)
        refine me_goto (tgt := 28) dX11_isWord_60 (by decide) ?_
        exact ih x8
      · refine me_iconst (pc' := 56) (v := 0) dX11_isWord_55 rfl kc_i0 ?_
        exact me_zret (b := false) dX11_isWord_56 rfl (fun z => z) rfl
theorem rX11_isWord {q : Nat × Nat} (p0 : Nat) (h : mm_H) (hp0 : p0 < 43) (hN : 358 ≤ q.1) : mm_R2 (mm_Sq q) (mm_Sq q) mX11_isWord [.ref 352, .ref (361 + p0)] h (gX11_isWord p0 h) (lf_z h) := by
  refine mm_body (L := [some (.ref 352), some (.ref (361 + p0)), none]) rfl (by decide +kernel) (Nat.le_of_ble_eq_true rfl) rfl ?_
  unfold gX11_isWord
  refine me_aload_n (pc' := 1) (i := 0) dX11_isWord_0 rfl rfl rfl ?_
  refine me_getI (pc' := 4) dX11_isWord_1 rfl fkX11_45 kd_352 (mm_ltm kd_352 hN) rfl ?_
  refine me_iconst (pc' := 5) (v := 1) dX11_isWord_4 rfl kc_i1 ?_
  refine me_icmp_ne (pc' := 8) (tgt := 24) dX11_isWord_5 (by decide) rfl (fun c1 => ?_) (fun c1 => ?_)
  · refine me_iconst (pc' := 25) (v := 0) dX11_isWord_24 rfl kc_i0 ?_
    exact me_zret (b := false) dX11_isWord_25 rfl (fun z => z) rfl
  · refine me_aload_n (pc' := 9) (i := 0) dX11_isWord_8 rfl rfl rfl ?_
    refine me_getI (pc' := 12) dX11_isWord_9 rfl fkX11_42 kd_352 (mm_ltm kd_352 hN) rfl ?_
    refine me_aload_n (pc' := 13) (i := 0) dX11_isWord_12 rfl rfl rfl ?_
    refine me_getI (pc' := 16) dX11_isWord_13 rfl fkX11_48 kd_352 (mm_ltm kd_352 hN) rfl ?_
    refine me_isub (pc' := 17) dX11_isWord_16 rfl ?_
    refine me_aload_n (pc' := 18) (i := 1) dX11_isWord_17 rfl rfl rfl ?_
    refine me_slen (pc' := 21) dX11_isWord_18 rfl ljX11_59 hp0 ⟨Nat.le_of_ble_eq_true rfl, Nat.le_of_ble_eq_true rfl⟩ (Nat.le_of_ble_eq_true rfl) ?_
    refine me_icmp_eq (pc' := 24) (tgt := 26) dX11_isWord_21 (by decide) rfl (fun c2 => ?_) (fun c2 => ?_)
    · refine me_iconst (pc' := 27) (v := 0) dX11_isWord_26 rfl kc_i0 ?_
      refine me_istore_n (pc' := 28) (i := 2) (L' := [some (.ref 352), some (.ref (361 + p0)), some (.int 0)]) dX11_isWord_27 rfl rfl (Nat.le_of_ble_eq_true rfl) (Nat.le_of_ble_eq_true rfl) rfl ?_
      exact rX11_isWord_L28 (q := q) p0 h hp0 hN mm_F 0
    · refine me_iconst (pc' := 25) (v := 0) dX11_isWord_24 rfl kc_i0 ?_
      exact me_zret (b := false) dX11_isWord_25 rfl (fun z => z) rfl
def gX11_wrong (p0 : Int32) (h : mm_H) : Option (Bool × mm_H) :=
(some (ms_I h 352 5 p0)).bind (fun (h1 : mm_H) =>
(some (ms_I h1 352 6 ((mh_I h1 352 12)))).bind (fun (h2 : mm_H) =>
some (false, h2)))
theorem rX11_wrong {q : Nat × Nat} (p0 : Int32) (h : mm_H) (hN : 358 ≤ q.1) : mm_R2 (mm_Sq q) (mm_Sq q) mX11_wrong [.ref 352, .int p0] h (gX11_wrong p0 h) lf_ze := by
  refine mm_body (L := [some (.ref 352), some (.int p0)]) rfl (by decide +kernel) (Nat.le_of_ble_eq_true rfl) rfl ?_
  unfold gX11_wrong
  refine me_aload_n (pc' := 1) (i := 0) dX11_wrong_0 rfl rfl rfl ?_
  refine me_iload_n (pc' := 2) (i := 1) dX11_wrong_1 rfl rfl rfl ?_
  refine me_putI (F' := (mm_Sq q)) (pc' := 5) dX11_wrong_2 rfl fkX11_30 kd_352 (mm_ltm kd_352 hN) rfl pgX11_5 (fun z => z) ?_
  refine mm_bnd (ms_I h 352 5 p0) (fun _ => [some (.ref 352), some (.int p0)]) (fun _ => []) (fun h1 => h1) (fun h1 => ?_)
  refine me_aload_n (pc' := 6) (i := 0) dX11_wrong_5 rfl rfl rfl ?_
  refine me_aload_n (pc' := 7) (i := 0) dX11_wrong_6 rfl rfl rfl ?_
  refine me_getI (pc' := 10) dX11_wrong_7 rfl fkX11_48 kd_352 (mm_ltm kd_352 hN) rfl ?_
  refine me_putI (F' := (mm_Sq q)) (pc' := 13) dX11_wrong_10 rfl fkX11_33 kd_352 (mm_ltm kd_352 hN) rfl pgX11_6 (fun z => z) ?_
  refine mm_bnd (ms_I h1 352 6 ((mh_I h1 352 12))) (fun _ => [some (.ref 352), some (.int p0)]) (fun _ => []) (fun h2 => h2) (fun h2 => ?_)
  refine me_iconst (pc' := 14) (v := 0) dX11_wrong_13 rfl kc_i0 ?_
  exact me_zret (b := false) dX11_wrong_14 rfl (fun z => z) rfl
def gX11_isShortWord (h : mm_H) : Option (Bool × mm_H) :=
if (mh_I h 352 11) = 1 then
if 6 < ((mh_I h 352 10) - (mh_I h 352 12)) then
(gX11_wrong 3 h).bind (fun (x3 : (Bool × mm_H)) =>
if x3.1 = true then
some (true, x3.2)
else
some (false, x3.2))
else
some (true, h)
else
(gX11_wrong 1 h).bind (fun (x6 : (Bool × mm_H)) =>
some (x6.1, x6.2))
theorem rX11_isShortWord {q : Nat × Nat} (h : mm_H) (hN : 358 ≤ q.1) : mm_R2 (mm_Sq q) (mm_Sq q) mX11_isShortWord [.ref 352] h (gX11_isShortWord h) lf_ze := by
  refine mm_body (L := [some (.ref 352)]) rfl (by decide +kernel) (Nat.le_of_ble_eq_true rfl) rfl ?_
  unfold gX11_isShortWord
  refine me_aload_n (pc' := 1) (i := 0) dX11_isShortWord_0 rfl rfl rfl ?_
  refine me_getI (pc' := 4) dX11_isShortWord_1 rfl fkX11_45 kd_352 (mm_ltm kd_352 hN) rfl ?_
  refine me_iconst (pc' := 5) (v := 1) dX11_isShortWord_4 rfl kc_i1 ?_
  refine me_icmp_eq (pc' := 8) (tgt := 14) dX11_isShortWord_5 (by decide) rfl (fun c1 => ?_) (fun c1 => ?_)
  · refine me_aload_n (pc' := 15) (i := 0) dX11_isShortWord_14 rfl rfl rfl ?_
    refine me_getI (pc' := 18) dX11_isShortWord_15 rfl fkX11_42 kd_352 (mm_ltm kd_352 hN) rfl ?_
    refine me_aload_n (pc' := 19) (i := 0) dX11_isShortWord_18 rfl rfl rfl ?_
    refine me_getI (pc' := 22) dX11_isShortWord_19 rfl fkX11_48 kd_352 (mm_ltm kd_352 hN) rfl ?_
    refine me_isub (pc' := 23) dX11_isShortWord_22 rfl ?_
    refine me_bipush (pc' := 25) (v := 6) dX11_isShortWord_23 rfl kc_b6 ?_
    refine me_icmp_le (pc' := 28) (tgt := 36) dX11_isShortWord_25 (by decide) rfl (fun c2 => ?_) (fun c2 => ?_)
    · refine me_iconst (pc' := 37) (v := 1) dX11_isShortWord_36 rfl kc_i1 ?_
      refine me_goto (tgt := 41) dX11_isShortWord_37 (by decide) ?_
      exact me_zret (b := true) dX11_isShortWord_41 rfl (fun z => z) rfl
    · refine me_aload_n (pc' := 29) (i := 0) dX11_isShortWord_28 rfl rfl rfl ?_
      refine me_iconst (pc' := 30) (v := 3) dX11_isShortWord_29 rfl kc_i3 ?_
      refine me_callV (As := [.int 3]) (st := []) (F' := (mm_Sq q)) (G' := (mm_Sq q)) (F'' := (mm_Sq q)) (pc' := 33) dX11_isShortWord_30 rfl mfX11_wrong rfl lkX11_160 kd_352 rfl (mm_ltm kd_352 hN) ⟨Nat.le_of_ble_eq_true rfl, Nat.le_of_ble_eq_true rfl⟩ (Nat.le_of_ble_eq_true rfl) (fun z => z) (rX11_wrong (q := q) 3 h hN) (fun x3 e4 => Or.inl ⟨_, _, rfl, fun z => z, ?_⟩)
      show mm_E2 _ _ _ _ _ [.int (mx_bi x3.1)] x3.2 _ _
      refine me_ifB_eq (pc' := 36) (tgt := 40) dX11_isShortWord_33 (by decide) rfl (fun c5 => ?_) (fun c5 => ?_)
      · refine me_iconst (pc' := 41) (v := 0) dX11_isShortWord_40 rfl kc_i0 ?_
        exact me_zret (b := false) dX11_isShortWord_41 rfl (fun z => z) rfl
      · refine me_iconst (pc' := 37) (v := 1) dX11_isShortWord_36 rfl kc_i1 ?_
        refine me_goto (tgt := 41) dX11_isShortWord_37 (by decide) ?_
        exact me_zret (b := true) dX11_isShortWord_41 rfl (fun z => z) rfl
  · refine me_aload_n (pc' := 9) (i := 0) dX11_isShortWord_8 rfl rfl rfl ?_
    refine me_iconst (pc' := 10) (v := 1) dX11_isShortWord_9 rfl kc_i1 ?_
    refine me_callV (As := [.int 1]) (st := []) (F' := (mm_Sq q)) (G' := (mm_Sq q)) (F'' := (mm_Sq q)) (pc' := 13) dX11_isShortWord_10 rfl mfX11_wrong rfl lkX11_160 kd_352 rfl (mm_ltm kd_352 hN) ⟨Nat.le_of_ble_eq_true rfl, Nat.le_of_ble_eq_true rfl⟩ (Nat.le_of_ble_eq_true rfl) (fun z => z) (rX11_wrong (q := q) 1 h hN) (fun x6 e7 => Or.inl ⟨_, _, rfl, fun z => z, ?_⟩)
    show mm_E2 _ _ _ _ _ [.int (mx_bi x6.1)] x6.2 _ _
    exact me_zret (b := x6.1) dX11_isShortWord_13 rfl (fun z => z) rfl
def gX11_in (p0 : Int32) (p1 : Int32) (p2 : Int32) (h : mm_H) : Option Bool :=
if p0 < p1 then
some false
else
if p2 < p0 then
some false
else
some true
theorem rX11_in {q : Nat × Nat} (p0 : Int32) (p1 : Int32) (p2 : Int32) (h : mm_H) (hN : 358 ≤ q.1) : mm_R2 (mm_Sq q) (mm_Sq q) mX11_in [.int p0, .int p1, .int p2] h (gX11_in p0 p1 p2 h) (lf_z h) := by
  refine mm_body (L := [some (.int p0), some (.int p1), some (.int p2)]) rfl (by decide +kernel) (Nat.le_of_ble_eq_true rfl) rfl ?_
  unfold gX11_in
  refine me_iload_n (pc' := 1) (i := 0) dX11_in_0 rfl rfl rfl ?_
  refine me_iload_n (pc' := 2) (i := 1) dX11_in_1 rfl rfl rfl ?_
  refine me_icmp_lt (pc' := 5) (tgt := 14) dX11_in_2 (by decide) rfl (fun c1 => ?_) (fun c1 => ?_)
  · refine me_iconst (pc' := 15) (v := 0) dX11_in_14 rfl kc_i0 ?_
    exact me_zret (b := false) dX11_in_15 rfl (fun z => z) rfl
  · refine me_iload_n (pc' := 6) (i := 0) dX11_in_5 rfl rfl rfl ?_
    refine me_iload_n (pc' := 7) (i := 2) dX11_in_6 rfl rfl rfl ?_
    refine me_icmp_gt (pc' := 10) (tgt := 14) dX11_in_7 (by decide) rfl (fun c2 => ?_) (fun c2 => ?_)
    · refine me_iconst (pc' := 15) (v := 0) dX11_in_14 rfl kc_i0 ?_
      exact me_zret (b := false) dX11_in_15 rfl (fun z => z) rfl
    · refine me_iconst (pc' := 11) (v := 1) dX11_in_10 rfl kc_i1 ?_
      refine me_goto (tgt := 15) dX11_in_11 (by decide) ?_
      exact me_zret (b := true) dX11_in_15 rfl (fun z => z) rfl
def gX11_parseRanged (p0 : Int32) (p1 : Int32) (p2 : Int32) (h : mm_H) : Option (Bool × mm_H) :=
if (mh_I h 352 11) = 2 then
(gX11_in ((mh_I h 352 13)) p1 p2 h).bind (fun (x2 : Bool) =>
if x2 = true then
if mm_ibd p0 4200 = true then
(some (ms_I h 353 (Int32.toNatClampNeg (p0)) ((mh_I h 352 13)))).bind (fun (h6 : mm_H) =>
(gX11_token h6).bind (fun (h7 : mm_H) =>
some (true, h7))) else none
else
(gX11_wrong 2 h).bind (fun (x9 : (Bool × mm_H)) =>
some (x9.1, x9.2)))
else
(gX11_wrong 1 h).bind (fun (x11 : (Bool × mm_H)) =>
some (x11.1, x11.2))
theorem rX11_parseRanged {q : Nat × Nat} (p0 : Int32) (p1 : Int32) (p2 : Int32) (h : mm_H) (hN : 358 ≤ q.1) : mm_R2 (mm_Sq q) (mm_Sq q) mX11_parseRanged [.ref 352, .int p0, .int p1, .int p2] h (gX11_parseRanged p0 p1 p2 h) lf_ze := by
  refine mm_body (L := [some (.ref 352), some (.int p0), some (.int p1), some (.int p2)]) rfl (by decide +kernel) (Nat.le_of_ble_eq_true rfl) rfl ?_
  unfold gX11_parseRanged
  refine me_aload_n (pc' := 1) (i := 0) dX11_parseRanged_0 rfl rfl rfl ?_
  refine me_getI (pc' := 4) dX11_parseRanged_1 rfl fkX11_45 kd_352 (mm_ltm kd_352 hN) rfl ?_
  refine me_iconst (pc' := 5) (v := 2) dX11_parseRanged_4 rfl kc_i2 ?_
  refine me_icmp_eq (pc' := 8) (tgt := 14) dX11_parseRanged_5 (by decide) rfl (fun c1 => ?_) (fun c1 => ?_)
  · refine me_aload_n (pc' := 15) (i := 0) dX11_parseRanged_14 rfl rfl rfl ?_
    refine me_getI (pc' := 18) dX11_parseRanged_15 rfl fkX11_51 kd_352 (mm_ltm kd_352 hN) rfl ?_
    refine me_iload_n (pc' := 19) (i := 2) dX11_parseRanged_18 rfl rfl rfl ?_
    refine me_iload_n (pc' := 20) (i := 3) dX11_parseRanged_19 rfl rfl rfl ?_
    refine me_callS (As := [.int (mh_I h 352 13), .int p1, .int p2]) (st := []) (F' := (mm_Sq q)) (G' := (mm_Sq q)) (F'' := (mm_Sq q)) (pc' := 23) dX11_parseRanged_20 rfl mfX11_in rfl lkX11_75 ⟨Nat.le_of_ble_eq_true rfl, Nat.le_of_ble_eq_true rfl⟩ (Nat.le_of_ble_eq_true rfl) (fun z => z) (rX11_in (q := q) ((mh_I h 352 13)) p1 p2 h hN) (fun x2 e3 => Or.inl ⟨_, _, rfl, fun z => z, ?_⟩)
    show mm_E2 _ _ _ _ _ [.int (mx_bi x2)] h _ _
    refine me_ifB_ne (pc' := 26) (tgt := 32) dX11_parseRanged_23 (by decide) rfl (fun c4 => ?_) (fun c4 => ?_)
    · refine me_aload_n (pc' := 33) (i := 0) dX11_parseRanged_32 rfl rfl rfl ?_
      refine me_getR (pc' := 36) (q' := 353) dX11_parseRanged_33 rfl fkX11_13 kd_352 (mm_ltm kd_352 hN) rfl (mrX11_0 hN) ?_
      refine me_iload_n (pc' := 37) (i := 1) dX11_parseRanged_36 rfl rfl rfl ?_
      refine me_aload_n (pc' := 38) (i := 0) dX11_parseRanged_37 rfl rfl rfl ?_
      refine me_getI (pc' := 41) dX11_parseRanged_38 rfl fkX11_51 kd_352 (mm_ltm kd_352 hN) rfl ?_
      refine mm_guard (fun c5 => ?_)
      refine me_iast (F' := (mm_Sq q)) (pc' := 42) dX11_parseRanged_41 rfl kd_353 (mm_ltm kd_353 hN) (mm_ibd_of c5) (fun z => z) ?_
      refine mm_bnd (ms_I h 353 (Int32.toNatClampNeg (p0)) ((mh_I h 352 13))) (fun _ => [some (.ref 352), some (.int p0), some (.int p1), some (.int p2)]) (fun _ => []) (fun h6 => h6) (fun h6 => ?_)
      refine me_aload_n (pc' := 43) (i := 0) dX11_parseRanged_42 rfl rfl rfl ?_
      refine me_callV (As := []) (st := []) (F' := (mm_Sq q)) (G' := (mm_Sq q)) (F'' := (mm_Sq q)) (pc' := 46) dX11_parseRanged_43 rfl mfX11_token rfl lkX11_157 kd_352 rfl (mm_ltm kd_352 hN) ⟨Nat.le_of_ble_eq_true rfl, Nat.le_of_ble_eq_true rfl⟩ (Nat.le_of_ble_eq_true rfl) (fun z => z) (rX11_token (q := q) h6 hN) (fun h7 e8 => Or.inl ⟨_, _, rfl, fun z => z, ?_⟩)
      show mm_E2 _ _ _ _ _ [] h7 _ _
      refine me_iconst (pc' := 47) (v := 1) dX11_parseRanged_46 rfl kc_i1 ?_
      exact me_zret (b := true) dX11_parseRanged_47 rfl (fun z => z) rfl
    · refine me_aload_n (pc' := 27) (i := 0) dX11_parseRanged_26 rfl rfl rfl ?_
      refine me_iconst (pc' := 28) (v := 2) dX11_parseRanged_27 rfl kc_i2 ?_
      refine me_callV (As := [.int 2]) (st := []) (F' := (mm_Sq q)) (G' := (mm_Sq q)) (F'' := (mm_Sq q)) (pc' := 31) dX11_parseRanged_28 rfl mfX11_wrong rfl lkX11_160 kd_352 rfl (mm_ltm kd_352 hN) ⟨Nat.le_of_ble_eq_true rfl, Nat.le_of_ble_eq_true rfl⟩ (Nat.le_of_ble_eq_true rfl) (fun z => z) (rX11_wrong (q := q) 2 h hN) (fun x9 e10 => Or.inl ⟨_, _, rfl, fun z => z, ?_⟩)
      show mm_E2 _ _ _ _ _ [.int (mx_bi x9.1)] x9.2 _ _
      exact me_zret (b := x9.1) dX11_parseRanged_31 rfl (fun z => z) rfl
  · refine me_aload_n (pc' := 9) (i := 0) dX11_parseRanged_8 rfl rfl rfl ?_
    refine me_iconst (pc' := 10) (v := 1) dX11_parseRanged_9 rfl kc_i1 ?_
    refine me_callV (As := [.int 1]) (st := []) (F' := (mm_Sq q)) (G' := (mm_Sq q)) (F'' := (mm_Sq q)) (pc' := 13) dX11_parseRanged_10 rfl mfX11_wrong rfl lkX11_160 kd_352 rfl (mm_ltm kd_352 hN) ⟨Nat.le_of_ble_eq_true rfl, Nat.le_of_ble_eq_true rfl⟩ (Nat.le_of_ble_eq_true rfl) (fun z => z) (rX11_wrong (q := q) 1 h hN) (fun x11 e12 => Or.inl ⟨_, _, rfl, fun z => z, ?_⟩)
    show mm_E2 _ _ _ _ _ [.int (mx_bi x11.1)] x11.2 _ _
    exact me_zret (b := x11.1) dX11_parseRanged_13 rfl (fun z => z) rfl
def gX11_ofProduct (p0 : Int32) (p1 : Int32) (h : mm_H) : Option Int32 :=
if mm_ibd (((4 + (p0 * 12)) + p1)) 4200 = true then
some ((mh_I h 353 (Int32.toNatClampNeg (((4 + (p0 * 12)) + p1))))) else none
theorem rX11_ofProduct {q : Nat × Nat} (p0 : Int32) (p1 : Int32) (h : mm_H) (hN : 358 ≤ q.1) : mm_R2 (mm_Sq q) (mm_Sq q) mX11_ofProduct [.ref 352, .int p0, .int p1] h (gX11_ofProduct p0 p1 h) (lf_i h) := by
  refine mm_body (L := [some (.ref 352), some (.int p0), some (.int p1)]) rfl (by decide +kernel) (Nat.le_of_ble_eq_true rfl) rfl ?_
  unfold gX11_ofProduct
  refine me_aload_n (pc' := 1) (i := 0) dX11_ofProduct_0 rfl rfl rfl ?_
  refine me_getR (pc' := 4) (q' := 353) dX11_ofProduct_1 rfl fkX11_13 kd_352 (mm_ltm kd_352 hN) rfl (mrX11_0 hN) ?_
  refine me_iconst (pc' := 5) (v := 4) dX11_ofProduct_4 rfl kc_i4 ?_
  refine me_iload_n (pc' := 6) (i := 1) dX11_ofProduct_5 rfl rfl rfl ?_
  refine me_bipush (pc' := 8) (v := 12) dX11_ofProduct_6 rfl kc_b12 ?_
  refine me_imul (pc' := 9) dX11_ofProduct_8 rfl ?_
  refine me_iadd (pc' := 10) dX11_ofProduct_9 rfl ?_
  refine me_iload_n (pc' := 11) (i := 2) dX11_ofProduct_10 rfl rfl rfl ?_
  refine me_iadd (pc' := 12) dX11_ofProduct_11 rfl ?_
  refine mm_guard (fun c1 => ?_)
  refine me_iald (pc' := 13) dX11_ofProduct_12 rfl kd_353 (mm_ltm kd_353 hN) (mm_ibd_of c1) ?_
  exact me_iret dX11_ofProduct_13 rfl (fun z => z) rfl
def gX11_productNamed_L32 (u14 : Int32) (u15 : Int32) (u16 : Int32) (k : Int32 → Option Int32) (h : mm_H) : Nat → Int32 → Int32 → Option Int32
  | 0, _, _ => none
  | n + 1, w17, w18 =>
    if w17 = 0 then
    k w17
    else
    if w18 < u15 then
    (gX11_ofProduct u16 ((1 + w18)) h).bind (fun (x22 : Int32) =>
    if mm_ibd ((u14 + w18)) 600 = true then
    mm_jn (fun (y25 : Int32) =>
    (some (w18 + 1)).bind (fun (x27 : Int32) =>
    gX11_productNamed_L32 u14 u15 u16 k h n y25 x27)) (fun (j26 : Int32 → Option Int32) =>
    if x22 = (mh_I h 355 (Int32.toNatClampNeg ((u14 + w18)))) then
    j26 1
    else
    j26 0) else none)
    else
    k w17
def gX11_productNamed_L2 (u1 : Int32) (u2 : Int32) (h : mm_H) : Nat → Int32 → Option Int32
  | 0, _ => none
  | n + 1, w3 =>
    if mm_ibd 1 4200 = true then
    if w3 < (mh_I h 353 (Int32.toNatClampNeg (1))) then
    (gX11_ofProduct w3 0 h).bind (fun (x6 : Int32) =>
    mm_jn (fun (y8 : Int32) =>
    mm_jn (fun (y10 : Int32) =>
    if y10 = 0 then
    (some (w3 + 1)).bind (fun (x13 : Int32) =>
    gX11_productNamed_L2 u1 u2 h n x13)
    else
    some w3) (fun (j11 : Int32 → Option Int32) =>
    gX11_productNamed_L32 u1 u2 w3 j11 h mm_F y8 0)) (fun (j9 : Int32 → Option Int32) =>
    if x6 = u2 then
    j9 1
    else
    j9 0))
    else
    some (-1) else none
def gX11_productNamed (p0 : Int32) (p1 : Int32) (h : mm_H) : Option Int32 :=
gX11_productNamed_L2 p0 p1 h mm_F 0
theorem rX11_productNamed_L32 {q : Nat × Nat}  (u14 : Int32) (u15 : Int32) (u16 : Int32) (k : Int32 → Option Int32) (h : mm_H)  (hN : 358 ≤ q.1) (kp : ∀ (y19 : Int32), mm_E2 (mm_Sq q) (mm_Sq q) mX11_productNamed 77 [some (.ref 352), some (.int u14), some (.int u15), some (.int u16), some (.int y19), none] [] h (k y19) (lf_i h)) : ∀ (n : Nat) (w17 : Int32) (w18 : Int32), mm_E2 (mm_Sq q) (mm_Sq q) mX11_productNamed 32 [some (.ref 352), some (.int u14), some (.int u15), some (.int u16), some (.int w17), some (.int w18)] [] h (gX11_productNamed_L32 u14 u15 u16 k h n w17 w18) (lf_i h) := by
  intro n
  induction n with
  | zero =>
    intro w17 w18
    exact mm_none
  | succ n ih =>
    intro w17 w18
    rw [gX11_productNamed_L32]
    refine me_iload (pc' := 34) (i := 4) dX11_productNamed_32 rfl rfl ?_
    refine me_if_eq (pc' := 37) (tgt := 77) dX11_productNamed_34 (by decide) rfl (fun c20 => ?_) (fun c20 => ?_)
    · exact mm_maskB [true, true, true, true, true, false] (kp w17)
    · refine me_iload (pc' := 39) (i := 5) dX11_productNamed_37 rfl rfl ?_
      refine me_iload_n (pc' := 40) (i := 2) dX11_productNamed_39 rfl rfl rfl ?_
      refine me_icmp_ge (pc' := 43) (tgt := 77) dX11_productNamed_40 (by decide) rfl (fun c21 => ?_) (fun c21 => ?_)
      · exact mm_maskB [true, true, true, true, true, false] (kp w17)
      · refine me_aload_n (pc' := 44) (i := 0) dX11_productNamed_43 rfl rfl rfl ?_
        refine me_iload_n (pc' := 45) (i := 3) dX11_productNamed_44 rfl rfl rfl ?_
        refine me_iconst (pc' := 46) (v := 1) dX11_productNamed_45 rfl kc_i1 ?_
        refine me_iload (pc' := 48) (i := 5) dX11_productNamed_46 rfl rfl ?_
        refine me_iadd (pc' := 49) dX11_productNamed_48 rfl ?_
        refine me_callV (As := [.int u16, .int (1 + w18)]) (st := []) (F' := (mm_Sq q)) (G' := (mm_Sq q)) (F'' := (mm_Sq q)) (pc' := 52) dX11_productNamed_49 rfl mfX11_ofProduct rfl lkX11_127 kd_352 rfl (mm_ltm kd_352 hN) ⟨Nat.le_of_ble_eq_true rfl, Nat.le_of_ble_eq_true rfl⟩ (Nat.le_of_ble_eq_true rfl) (fun z => z) (rX11_ofProduct (q := q) u16 ((1 + w18)) h hN) (fun x22 e23 => Or.inl ⟨_, _, rfl, fun z => z, ?_⟩)
        show mm_E2 _ _ _ _ _ [.int x22] h _ _
        refine me_aload_n (pc' := 53) (i := 0) dX11_productNamed_52 rfl rfl rfl ?_
        refine me_getR (pc' := 56) (q' := 355) dX11_productNamed_53 rfl fkX11_24 kd_352 (mm_ltm kd_352 hN) rfl (mrX11_3 hN) ?_
        refine me_iload_n (pc' := 57) (i := 1) dX11_productNamed_56 rfl rfl rfl ?_
        refine me_iload (pc' := 59) (i := 5) dX11_productNamed_57 rfl rfl ?_
        refine me_iadd (pc' := 60) dX11_productNamed_59 rfl ?_
        refine mm_guard (fun c24 => ?_)
        refine me_iald (pc' := 61) dX11_productNamed_60 rfl kd_355 (mm_ltm kd_355 hN) (mm_ibd_of c24) ?_
        refine mm_jnI (fun (j269 : Int32 → Option Int32) => ∀ (y25 : Int32), mm_E2 (mm_Sq q) (mm_Sq q) mX11_productNamed 69 [some (.ref 352), some (.int u14), some (.int u15), some (.int u16), none, some (.int w18)] [.int y25] h (j269 y25) (lf_i h)) ?_ (fun j26 j26p => ?_)
        · intro y25
          refine me_istore (pc' := 71) (i := 4) (L' := [some (.ref 352), some (.int u14), some (.int u15), some (.int u16), some (.int y25), some (.int w18)]) dX11_productNamed_69 rfl (Nat.le_of_ble_eq_true rfl) (Nat.le_of_ble_eq_true rfl) rfl ?_
          refine me_iinc (pc' := 74) (i := 5) (x := w18) (y := w18 + 1) (L' := [some (.ref 352), some (.int u14), some (.int u15), some (.int u16), some (.int y25), some (.int (w18 + 1))]) dX11_productNamed_71 rfl (Nat.le_of_ble_eq_true rfl) (Nat.le_of_ble_eq_true rfl) rfl (kc_plus kc_i1) rfl ?_
          refine mm_bnd (w18 + 1) (fun x27 => [some (.ref 352), some (.int u14), some (.int u15), some (.int u16), some (.int y25), some (.int x27)]) (fun _ => []) (fun _ => h) (fun x27 => ?_)
          refine me_goto (tgt := 32) dX11_productNamed_74 (by decide) ?_
          exact ih y25 x27
        refine me_icmp_ne (pc' := 64) (tgt := 68) dX11_productNamed_61 (by decide) rfl (fun c28 => ?_) (fun c28 => ?_)
        · refine me_iconst (pc' := 69) (v := 0) dX11_productNamed_68 rfl kc_i0 ?_
          exact mm_maskB [true, true, true, true, false, true] (j26p 0)
        · refine me_iconst (pc' := 65) (v := 1) dX11_productNamed_64 rfl kc_i1 ?_
          refine me_goto (tgt := 69) dX11_productNamed_65 (by decide) ?_
          exact mm_maskB [true, true, true, true, false, true] (j26p 1)
theorem rX11_productNamed_L2 {q : Nat × Nat}  (u1 : Int32) (u2 : Int32)  (h : mm_H)  (hN : 358 ≤ q.1) : ∀ (n : Nat) (w3 : Int32), mm_E2 (mm_Sq q) (mm_Sq q) mX11_productNamed 2 [some (.ref 352), some (.int u1), some (.int u2), some (.int w3), none, none] [] h (gX11_productNamed_L2 u1 u2 h n w3) (lf_i h) := by
  intro n
  induction n with
  | zero =>
    intro w3
    exact mm_none
  | succ n ih =>
    intro w3
    rw [gX11_productNamed_L2]
    refine me_iload_n (pc' := 3) (i := 3) dX11_productNamed_2 rfl rfl rfl ?_
    refine me_aload_n (pc' := 4) (i := 0) dX11_productNamed_3 rfl rfl rfl ?_
    refine me_getR (pc' := 7) (q' := 353) dX11_productNamed_4 rfl fkX11_13 kd_352 (mm_ltm kd_352 hN) rfl (mrX11_0 hN) ?_
    refine me_iconst (pc' := 8) (v := 1) dX11_productNamed_7 rfl kc_i1 ?_
    refine mm_guard (fun c4 => ?_)
    refine me_iald (pc' := 9) dX11_productNamed_8 rfl kd_353 (mm_ltm kd_353 hN) (mm_ibd_of c4) ?_
    refine me_icmp_ge (pc' := 12) (tgt := 90) dX11_productNamed_9 (by decide) rfl (fun c5 => ?_) (fun c5 => ?_)
    · refine me_iconst (pc' := 91) (v := (-1)) dX11_productNamed_90 rfl kc_im1 ?_
      exact me_iret dX11_productNamed_91 rfl (fun z => z) rfl
    · refine me_aload_n (pc' := 13) (i := 0) dX11_productNamed_12 rfl rfl rfl ?_
      refine me_iload_n (pc' := 14) (i := 3) dX11_productNamed_13 rfl rfl rfl ?_
      refine me_iconst (pc' := 15) (v := 0) dX11_productNamed_14 rfl kc_i0 ?_
      refine me_callV (As := [.int w3, .int 0]) (st := []) (F' := (mm_Sq q)) (G' := (mm_Sq q)) (F'' := (mm_Sq q)) (pc' := 18) dX11_productNamed_15 rfl mfX11_ofProduct rfl lkX11_127 kd_352 rfl (mm_ltm kd_352 hN) ⟨Nat.le_of_ble_eq_true rfl, Nat.le_of_ble_eq_true rfl⟩ (Nat.le_of_ble_eq_true rfl) (fun z => z) (rX11_ofProduct (q := q) w3 0 h hN) (fun x6 e7 => Or.inl ⟨_, _, rfl, fun z => z, ?_⟩)
      show mm_E2 _ _ _ _ _ [.int x6] h _ _
      refine me_iload_n (pc' := 19) (i := 2) dX11_productNamed_18 rfl rfl rfl ?_
      refine mm_jnI (fun (j99 : Int32 → Option Int32) => ∀ (y8 : Int32), mm_E2 (mm_Sq q) (mm_Sq q) mX11_productNamed 27 [some (.ref 352), some (.int u1), some (.int u2), some (.int w3), none, none] [.int y8] h (j99 y8) (lf_i h)) ?_ (fun j9 j9p => ?_)
      · intro y8
        refine me_istore (pc' := 29) (i := 4) (L' := [some (.ref 352), some (.int u1), some (.int u2), some (.int w3), some (.int y8), none]) dX11_productNamed_27 rfl (Nat.le_of_ble_eq_true rfl) (Nat.le_of_ble_eq_true rfl) rfl ?_
        refine me_iconst (pc' := 30) (v := 0) dX11_productNamed_29 rfl kc_i0 ?_
        refine me_istore (pc' := 32) (i := 5) (L' := [some (.ref 352), some (.int u1), some (.int u2), some (.int w3), some (.int y8), some (.int 0)]) dX11_productNamed_30 rfl (Nat.le_of_ble_eq_true rfl) (Nat.le_of_ble_eq_true rfl) rfl ?_
        refine mm_jnI (fun (j119 : Int32 → Option Int32) => ∀ (y10 : Int32), mm_E2 (mm_Sq q) (mm_Sq q) mX11_productNamed 77 [some (.ref 352), some (.int u1), some (.int u2), some (.int w3), some (.int y10), none] [] h (j119 y10) (lf_i h)) ?_ (fun j11 j11p => ?_)
        · intro y10
          refine me_iload (pc' := 79) (i := 4) dX11_productNamed_77 rfl rfl ?_
          refine me_if_eq (pc' := 82) (tgt := 84) dX11_productNamed_79 (by decide) rfl (fun c12 => ?_) (fun c12 => ?_)
          · refine me_iinc (pc' := 87) (i := 3) (x := w3) (y := w3 + 1) (L' := [some (.ref 352), some (.int u1), some (.int u2), some (.int (w3 + 1)), some (.int y10), none]) dX11_productNamed_84 rfl (Nat.le_of_ble_eq_true rfl) (Nat.le_of_ble_eq_true rfl) rfl (kc_plus kc_i1) rfl ?_
            refine mm_bnd (w3 + 1) (fun x13 => [some (.ref 352), some (.int u1), some (.int u2), some (.int x13), some (.int y10), none]) (fun _ => []) (fun _ => h) (fun x13 => ?_)
            refine me_goto (tgt := 2) dX11_productNamed_87 (by decide) ?_
            exact mm_maskB [true, true, true, true, false, false] (ih x13)
          · refine me_iload_n (pc' := 83) (i := 3) dX11_productNamed_82 rfl rfl rfl ?_
            exact me_iret dX11_productNamed_83 rfl (fun z => z) rfl
        exact rX11_productNamed_L32 (q := q) u1 u2 w3 j11 h hN j11p mm_F y8 0
      refine me_icmp_ne (pc' := 22) (tgt := 26) dX11_productNamed_19 (by decide) rfl (fun c29 => ?_) (fun c29 => ?_)
      · refine me_iconst (pc' := 27) (v := 0) dX11_productNamed_26 rfl kc_i0 ?_
        exact j9p 0
      · refine me_iconst (pc' := 23) (v := 1) dX11_productNamed_22 rfl kc_i1 ?_
        refine me_goto (tgt := 27) dX11_productNamed_23 (by decide) ?_
        exact j9p 1
theorem rX11_productNamed {q : Nat × Nat} (p0 : Int32) (p1 : Int32) (h : mm_H) (hN : 358 ≤ q.1) : mm_R2 (mm_Sq q) (mm_Sq q) mX11_productNamed [.ref 352, .int p0, .int p1] h (gX11_productNamed p0 p1 h) (lf_i h) := by
  refine mm_body (L := [some (.ref 352), some (.int p0), some (.int p1), none, none, none]) rfl (by decide +kernel) (Nat.le_of_ble_eq_true rfl) rfl ?_
  unfold gX11_productNamed
  refine me_iconst (pc' := 1) (v := 0) dX11_productNamed_0 rfl kc_i0 ?_
  refine me_istore_n (pc' := 2) (i := 3) (L' := [some (.ref 352), some (.int p0), some (.int p1), some (.int 0), none, none]) dX11_productNamed_1 rfl rfl (Nat.le_of_ble_eq_true rfl) (Nat.le_of_ble_eq_true rfl) rfl ?_
  exact rX11_productNamed_L2 (q := q) p0 p1 h hN mm_F 0
def gX11_note (p0 : Int32) (p1 : Int32) (p2 : Int32) (h : mm_H) : Option mm_H :=
if mm_ibd (((4 + (p0 * 12)) + p1)) 4200 = true then
if mm_ibd (((4 + (p0 * 12)) + p1)) 4200 = true then
(some (ms_I h 353 (Int32.toNatClampNeg (((4 + (p0 * 12)) + p1))) (((mh_I h 353 (Int32.toNatClampNeg (((4 + (p0 * 12)) + p1)))) + p2)))).bind (fun (h3 : mm_H) =>
some h3) else none else none
theorem rX11_note {q : Nat × Nat} (p0 : Int32) (p1 : Int32) (p2 : Int32) (h : mm_H) (hN : 358 ≤ q.1) : mm_R2 (mm_Sq q) (mm_Sq q) mX11_note [.ref 352, .int p0, .int p1, .int p2] h (gX11_note p0 p1 p2 h) lf_v := by
  refine mm_body (L := [some (.ref 352), some (.int p0), some (.int p1), some (.int p2)]) rfl (by decide +kernel) (Nat.le_of_ble_eq_true rfl) rfl ?_
  unfold gX11_note
  refine me_aload_n (pc' := 1) (i := 0) dX11_note_0 rfl rfl rfl ?_
  refine me_getR (pc' := 4) (q' := 353) dX11_note_1 rfl fkX11_13 kd_352 (mm_ltm kd_352 hN) rfl (mrX11_0 hN) ?_
  refine me_iconst (pc' := 5) (v := 4) dX11_note_4 rfl kc_i4 ?_
  refine me_iload_n (pc' := 6) (i := 1) dX11_note_5 rfl rfl rfl ?_
  refine me_bipush (pc' := 8) (v := 12) dX11_note_6 rfl kc_b12 ?_
  refine me_imul (pc' := 9) dX11_note_8 rfl ?_
  refine me_iadd (pc' := 10) dX11_note_9 rfl ?_
  refine me_iload_n (pc' := 11) (i := 2) dX11_note_10 rfl rfl rfl ?_
  refine me_iadd (pc' := 12) dX11_note_11 rfl ?_
  refine me_dup2 (pc' := 13) dX11_note_12 rfl rfl rfl ?_
  refine mm_guard (fun c1 => ?_)
  refine me_iald (pc' := 14) dX11_note_13 rfl kd_353 (mm_ltm kd_353 hN) (mm_ibd_of c1) ?_
  refine me_iload_n (pc' := 15) (i := 3) dX11_note_14 rfl rfl rfl ?_
  refine me_iadd (pc' := 16) dX11_note_15 rfl ?_
  refine mm_guard (fun c2 => ?_)
  refine me_iast (F' := (mm_Sq q)) (pc' := 17) dX11_note_16 rfl kd_353 (mm_ltm kd_353 hN) (mm_ibd_of c2) (fun z => z) ?_
  refine mm_bnd (ms_I h 353 (Int32.toNatClampNeg (((4 + (p0 * 12)) + p1))) (((mh_I h 353 (Int32.toNatClampNeg (((4 + (p0 * 12)) + p1)))) + p2))) (fun _ => [some (.ref 352), some (.int p0), some (.int p1), some (.int p2)]) (fun _ => []) (fun h3 => h3) (fun h3 => ?_)
  exact me_vret dX11_note_17 rfl (fun z => z) rfl
def gX11_setBatch (p0 : Int32) (p1 : Int32) (p2 : Int32) (h : mm_H) : Option mm_H :=
if mm_ibd (((100 + (p0 * 4)) + p1)) 4200 = true then
(some (ms_I h 353 (Int32.toNatClampNeg (((100 + (p0 * 4)) + p1))) p2)).bind (fun (h2 : mm_H) =>
some h2) else none
theorem rX11_setBatch {q : Nat × Nat} (p0 : Int32) (p1 : Int32) (p2 : Int32) (h : mm_H) (hN : 358 ≤ q.1) : mm_R2 (mm_Sq q) (mm_Sq q) mX11_setBatch [.ref 352, .int p0, .int p1, .int p2] h (gX11_setBatch p0 p1 p2 h) lf_v := by
  refine mm_body (L := [some (.ref 352), some (.int p0), some (.int p1), some (.int p2)]) rfl (by decide +kernel) (Nat.le_of_ble_eq_true rfl) rfl ?_
  unfold gX11_setBatch
  refine me_aload_n (pc' := 1) (i := 0) dX11_setBatch_0 rfl rfl rfl ?_
  refine me_getR (pc' := 4) (q' := 353) dX11_setBatch_1 rfl fkX11_13 kd_352 (mm_ltm kd_352 hN) rfl (mrX11_0 hN) ?_
  refine me_bipush (pc' := 6) (v := 100) dX11_setBatch_4 rfl kc_b100 ?_
  refine me_iload_n (pc' := 7) (i := 1) dX11_setBatch_6 rfl rfl rfl ?_
  refine me_iconst (pc' := 8) (v := 4) dX11_setBatch_7 rfl kc_i4 ?_
  refine me_imul (pc' := 9) dX11_setBatch_8 rfl ?_
  refine me_iadd (pc' := 10) dX11_setBatch_9 rfl ?_
  refine me_iload_n (pc' := 11) (i := 2) dX11_setBatch_10 rfl rfl rfl ?_
  refine me_iadd (pc' := 12) dX11_setBatch_11 rfl ?_
  refine me_iload_n (pc' := 13) (i := 3) dX11_setBatch_12 rfl rfl rfl ?_
  refine mm_guard (fun c1 => ?_)
  refine me_iast (F' := (mm_Sq q)) (pc' := 14) dX11_setBatch_13 rfl kd_353 (mm_ltm kd_353 hN) (mm_ibd_of c1) (fun z => z) ?_
  refine mm_bnd (ms_I h 353 (Int32.toNatClampNeg (((100 + (p0 * 4)) + p1))) p2) (fun _ => [some (.ref 352), some (.int p0), some (.int p1), some (.int p2)]) (fun _ => []) (fun h2 => h2) (fun h2 => ?_)
  exact me_vret dX11_setBatch_14 rfl (fun z => z) rfl
def gX11_setReservation (p0 : Int32) (p1 : Int32) (p2 : Int32) (h : mm_H) : Option mm_H :=
if mm_ibd (((180 + (p0 * 24)) + p1)) 4200 = true then
(some (ms_I h 353 (Int32.toNatClampNeg (((180 + (p0 * 24)) + p1))) p2)).bind (fun (h2 : mm_H) =>
some h2) else none
theorem rX11_setReservation {q : Nat × Nat} (p0 : Int32) (p1 : Int32) (p2 : Int32) (h : mm_H) (hN : 358 ≤ q.1) : mm_R2 (mm_Sq q) (mm_Sq q) mX11_setReservation [.ref 352, .int p0, .int p1, .int p2] h (gX11_setReservation p0 p1 p2 h) lf_v := by
  refine mm_body (L := [some (.ref 352), some (.int p0), some (.int p1), some (.int p2)]) rfl (by decide +kernel) (Nat.le_of_ble_eq_true rfl) rfl ?_
  unfold gX11_setReservation
  refine me_aload_n (pc' := 1) (i := 0) dX11_setReservation_0 rfl rfl rfl ?_
  refine me_getR (pc' := 4) (q' := 353) dX11_setReservation_1 rfl fkX11_13 kd_352 (mm_ltm kd_352 hN) rfl (mrX11_0 hN) ?_
  refine me_sipush (pc' := 7) (v := 180) dX11_setReservation_4 rfl kc_s180 ?_
  refine me_iload_n (pc' := 8) (i := 1) dX11_setReservation_7 rfl rfl rfl ?_
  refine me_bipush (pc' := 10) (v := 24) dX11_setReservation_8 rfl kc_b24 ?_
  refine me_imul (pc' := 11) dX11_setReservation_10 rfl ?_
  refine me_iadd (pc' := 12) dX11_setReservation_11 rfl ?_
  refine me_iload_n (pc' := 13) (i := 2) dX11_setReservation_12 rfl rfl rfl ?_
  refine me_iadd (pc' := 14) dX11_setReservation_13 rfl ?_
  refine me_iload_n (pc' := 15) (i := 3) dX11_setReservation_14 rfl rfl rfl ?_
  refine mm_guard (fun c1 => ?_)
  refine me_iast (F' := (mm_Sq q)) (pc' := 16) dX11_setReservation_15 rfl kd_353 (mm_ltm kd_353 hN) (mm_ibd_of c1) (fun z => z) ?_
  refine mm_bnd (ms_I h 353 (Int32.toNatClampNeg (((180 + (p0 * 24)) + p1))) p2) (fun _ => [some (.ref 352), some (.int p0), some (.int p1), some (.int p2)]) (fun _ => []) (fun h2 => h2) (fun h2 => ?_)
  exact me_vret dX11_setReservation_16 rfl (fun z => z) rfl
def gX11_receiveIt_L52 (u13 : Int32) : Nat → Int32 → mm_H → Option (Int32 × mm_H)
  | 0, _, _ => none
  | n + 1, w14, h15 =>
    if w14 < 10 then
    (gX11_setReservation w14 ((4 + u13)) 0 h15).bind (fun (h20 : mm_H) =>
    (some (w14 + 1)).bind (fun (x22 : Int32) =>
    gX11_receiveIt_L52 u13 n x22 h20))
    else
    if mm_ibd 2 4200 = true then
    if mm_ibd 2 4200 = true then
    (some (ms_I h15 353 (Int32.toNatClampNeg (2)) (((mh_I h15 353 (Int32.toNatClampNeg (2))) + 1)))).bind (fun (h19 : mm_H) =>
    some (u13, h19)) else none else none
def gX11_receiveIt (p0 : Int32) (p1 : Int32) (p2 : Int32) (p3 : Int32) (h : mm_H) : Option (Int32 × mm_H) :=
if mm_ibd 2 4200 = true then
(some ((mh_I h 353 (Int32.toNatClampNeg (2))))).bind (fun (x2 : Int32) =>
(gX11_setBatch x2 0 p0 h).bind (fun (h3 : mm_H) =>
(gX11_setBatch x2 1 p1 h3).bind (fun (h5 : mm_H) =>
(gX11_setBatch x2 2 p2 h5).bind (fun (h7 : mm_H) =>
(gX11_setBatch x2 3 p3 h7).bind (fun (h9 : mm_H) =>
(gX11_note p0 8 p1 h9).bind (fun (h11 : mm_H) =>
gX11_receiveIt_L52 x2 mm_F 0 h11)))))) else none
theorem rX11_receiveIt_L52 {q : Nat × Nat}  (u13 : Int32)    (hN : 358 ≤ q.1) : ∀ (n : Nat) (w14 : Int32) (h15 : mm_H), mm_E2 (mm_Sq q) (mm_Sq q) mX11_receiveIt 52 [some (.ref 352), none, none, none, none, some (.int u13), some (.int w14)] [] h15 (gX11_receiveIt_L52 u13  n w14 h15) lf_ie := by
  intro n
  induction n with
  | zero =>
    intro w14 h15
    exact mm_none
  | succ n ih =>
    intro w14 h15
    rw [gX11_receiveIt_L52]
    refine me_iload (pc' := 54) (i := 6) dX11_receiveIt_52 rfl rfl ?_
    refine me_bipush (pc' := 56) (v := 10) dX11_receiveIt_54 rfl kc_b10 ?_
    refine me_icmp_ge (pc' := 59) (tgt := 76) dX11_receiveIt_56 (by decide) rfl (fun c16 => ?_) (fun c16 => ?_)
    · refine me_aload_n (pc' := 77) (i := 0) dX11_receiveIt_76 rfl rfl rfl ?_
      refine me_getR (pc' := 80) (q' := 353) dX11_receiveIt_77 rfl fkX11_13 kd_352 (mm_ltm kd_352 hN) rfl (mrX11_0 hN) ?_
      refine me_iconst (pc' := 81) (v := 2) dX11_receiveIt_80 rfl kc_i2 ?_
      refine me_dup2 (pc' := 82) dX11_receiveIt_81 rfl rfl rfl ?_
      refine mm_guard (fun c17 => ?_)
      refine me_iald (pc' := 83) dX11_receiveIt_82 rfl kd_353 (mm_ltm kd_353 hN) (mm_ibd_of c17) ?_
      refine me_iconst (pc' := 84) (v := 1) dX11_receiveIt_83 rfl kc_i1 ?_
      refine me_iadd (pc' := 85) dX11_receiveIt_84 rfl ?_
      refine mm_guard (fun c18 => ?_)
      refine me_iast (F' := (mm_Sq q)) (pc' := 86) dX11_receiveIt_85 rfl kd_353 (mm_ltm kd_353 hN) (mm_ibd_of c18) (fun z => z) ?_
      refine mm_bnd (ms_I h15 353 (Int32.toNatClampNeg (2)) (((mh_I h15 353 (Int32.toNatClampNeg (2))) + 1))) (fun _ => [some (.ref 352), none, none, none, none, some (.int u13), some (.int w14)]) (fun _ => []) (fun h19 => h19) (fun h19 => ?_)
      refine me_iload (pc' := 88) (i := 5) dX11_receiveIt_86 rfl rfl ?_
      exact me_iret dX11_receiveIt_88 rfl (fun z => z) rfl
    · refine me_aload_n (pc' := 60) (i := 0) dX11_receiveIt_59 rfl rfl rfl ?_
      refine me_iload (pc' := 62) (i := 6) dX11_receiveIt_60 rfl rfl ?_
      refine me_iconst (pc' := 63) (v := 4) dX11_receiveIt_62 rfl kc_i4 ?_
      refine me_iload (pc' := 65) (i := 5) dX11_receiveIt_63 rfl rfl ?_
      refine me_iadd (pc' := 66) dX11_receiveIt_65 rfl ?_
      refine me_iconst (pc' := 67) (v := 0) dX11_receiveIt_66 rfl kc_i0 ?_
      refine me_callV (As := [.int w14, .int (4 + u13), .int 0]) (st := []) (F' := (mm_Sq q)) (G' := (mm_Sq q)) (F'' := (mm_Sq q)) (pc' := 70) dX11_receiveIt_67 rfl mfX11_setReservation rfl lkX11_118 kd_352 rfl (mm_ltm kd_352 hN) ⟨Nat.le_of_ble_eq_true rfl, Nat.le_of_ble_eq_true rfl⟩ (Nat.le_of_ble_eq_true rfl) (fun z => z) (rX11_setReservation (q := q) w14 ((4 + u13)) 0 h15 hN) (fun h20 e21 => Or.inl ⟨_, _, rfl, fun z => z, ?_⟩)
      show mm_E2 _ _ _ _ _ [] h20 _ _
      refine me_iinc (pc' := 73) (i := 6) (x := w14) (y := w14 + 1) (L' := [some (.ref 352), none, none, none, none, some (.int u13), some (.int (w14 + 1))]) dX11_receiveIt_70 rfl (Nat.le_of_ble_eq_true rfl) (Nat.le_of_ble_eq_true rfl) rfl (kc_plus kc_i1) rfl ?_
      refine mm_bnd (w14 + 1) (fun x22 => [some (.ref 352), none, none, none, none, some (.int u13), some (.int x22)]) (fun _ => []) (fun _ => h20) (fun x22 => ?_)
      refine me_goto (tgt := 52) dX11_receiveIt_73 (by decide) ?_
      exact ih x22 h20
theorem rX11_receiveIt {q : Nat × Nat} (p0 : Int32) (p1 : Int32) (p2 : Int32) (p3 : Int32) (h : mm_H) (hN : 358 ≤ q.1) : mm_R2 (mm_Sq q) (mm_Sq q) mX11_receiveIt [.ref 352, .int p0, .int p1, .int p2, .int p3] h (gX11_receiveIt p0 p1 p2 p3 h) lf_ie := by
  refine mm_body (L := [some (.ref 352), some (.int p0), some (.int p1), some (.int p2), some (.int p3), none, none]) rfl (by decide +kernel) (Nat.le_of_ble_eq_true rfl) rfl ?_
  unfold gX11_receiveIt
  refine me_aload_n (pc' := 1) (i := 0) dX11_receiveIt_0 rfl rfl rfl ?_
  refine me_getR (pc' := 4) (q' := 353) dX11_receiveIt_1 rfl fkX11_13 kd_352 (mm_ltm kd_352 hN) rfl (mrX11_0 hN) ?_
  refine me_iconst (pc' := 5) (v := 2) dX11_receiveIt_4 rfl kc_i2 ?_
  refine mm_guard (fun c1 => ?_)
  refine me_iald (pc' := 6) dX11_receiveIt_5 rfl kd_353 (mm_ltm kd_353 hN) (mm_ibd_of c1) ?_
  refine mm_bnd ((mh_I h 353 (Int32.toNatClampNeg (2)))) (fun x2 => [some (.ref 352), some (.int p0), some (.int p1), some (.int p2), some (.int p3), none, none]) (fun x2 => [.int x2]) (fun _ => h) (fun x2 => ?_)
  refine me_istore (pc' := 8) (i := 5) (L' := [some (.ref 352), some (.int p0), some (.int p1), some (.int p2), some (.int p3), some (.int x2), none]) dX11_receiveIt_6 rfl (Nat.le_of_ble_eq_true rfl) (Nat.le_of_ble_eq_true rfl) rfl ?_
  refine me_aload_n (pc' := 9) (i := 0) dX11_receiveIt_8 rfl rfl rfl ?_
  refine me_iload (pc' := 11) (i := 5) dX11_receiveIt_9 rfl rfl ?_
  refine me_iconst (pc' := 12) (v := 0) dX11_receiveIt_11 rfl kc_i0 ?_
  refine me_iload_n (pc' := 13) (i := 1) dX11_receiveIt_12 rfl rfl rfl ?_
  refine me_callV (As := [.int x2, .int 0, .int p0]) (st := []) (F' := (mm_Sq q)) (G' := (mm_Sq q)) (F'' := (mm_Sq q)) (pc' := 16) dX11_receiveIt_13 rfl mfX11_setBatch rfl lkX11_111 kd_352 rfl (mm_ltm kd_352 hN) ⟨Nat.le_of_ble_eq_true rfl, Nat.le_of_ble_eq_true rfl⟩ (Nat.le_of_ble_eq_true rfl) (fun z => z) (rX11_setBatch (q := q) x2 0 p0 h hN) (fun h3 e4 => Or.inl ⟨_, _, rfl, fun z => z, ?_⟩)
  show mm_E2 _ _ _ _ _ [] h3 _ _
  refine me_aload_n (pc' := 17) (i := 0) dX11_receiveIt_16 rfl rfl rfl ?_
  refine me_iload (pc' := 19) (i := 5) dX11_receiveIt_17 rfl rfl ?_
  refine me_iconst (pc' := 20) (v := 1) dX11_receiveIt_19 rfl kc_i1 ?_
  refine me_iload_n (pc' := 21) (i := 2) dX11_receiveIt_20 rfl rfl rfl ?_
  refine me_callV (As := [.int x2, .int 1, .int p1]) (st := []) (F' := (mm_Sq q)) (G' := (mm_Sq q)) (F'' := (mm_Sq q)) (pc' := 24) dX11_receiveIt_21 rfl mfX11_setBatch rfl lkX11_111 kd_352 rfl (mm_ltm kd_352 hN) ⟨Nat.le_of_ble_eq_true rfl, Nat.le_of_ble_eq_true rfl⟩ (Nat.le_of_ble_eq_true rfl) (fun z => z) (rX11_setBatch (q := q) x2 1 p1 h3 hN) (fun h5 e6 => Or.inl ⟨_, _, rfl, fun z => z, ?_⟩)
  show mm_E2 _ _ _ _ _ [] h5 _ _
  refine me_aload_n (pc' := 25) (i := 0) dX11_receiveIt_24 rfl rfl rfl ?_
  refine me_iload (pc' := 27) (i := 5) dX11_receiveIt_25 rfl rfl ?_
  refine me_iconst (pc' := 28) (v := 2) dX11_receiveIt_27 rfl kc_i2 ?_
  refine me_iload_n (pc' := 29) (i := 3) dX11_receiveIt_28 rfl rfl rfl ?_
  refine me_callV (As := [.int x2, .int 2, .int p2]) (st := []) (F' := (mm_Sq q)) (G' := (mm_Sq q)) (F'' := (mm_Sq q)) (pc' := 32) dX11_receiveIt_29 rfl mfX11_setBatch rfl lkX11_111 kd_352 rfl (mm_ltm kd_352 hN) ⟨Nat.le_of_ble_eq_true rfl, Nat.le_of_ble_eq_true rfl⟩ (Nat.le_of_ble_eq_true rfl) (fun z => z) (rX11_setBatch (q := q) x2 2 p2 h5 hN) (fun h7 e8 => Or.inl ⟨_, _, rfl, fun z => z, ?_⟩)
  show mm_E2 _ _ _ _ _ [] h7 _ _
  refine me_aload_n (pc' := 33) (i := 0) dX11_receiveIt_32 rfl rfl rfl ?_
  refine me_iload (pc' := 35) (i := 5) dX11_receiveIt_33 rfl rfl ?_
  refine me_iconst (pc' := 36) (v := 3) dX11_receiveIt_35 rfl kc_i3 ?_
  refine me_iload (pc' := 38) (i := 4) dX11_receiveIt_36 rfl rfl ?_
  refine me_callV (As := [.int x2, .int 3, .int p3]) (st := []) (F' := (mm_Sq q)) (G' := (mm_Sq q)) (F'' := (mm_Sq q)) (pc' := 41) dX11_receiveIt_38 rfl mfX11_setBatch rfl lkX11_111 kd_352 rfl (mm_ltm kd_352 hN) ⟨Nat.le_of_ble_eq_true rfl, Nat.le_of_ble_eq_true rfl⟩ (Nat.le_of_ble_eq_true rfl) (fun z => z) (rX11_setBatch (q := q) x2 3 p3 h7 hN) (fun h9 e10 => Or.inl ⟨_, _, rfl, fun z => z, ?_⟩)
  show mm_E2 _ _ _ _ _ [] h9 _ _
  refine me_aload_n (pc' := 42) (i := 0) dX11_receiveIt_41 rfl rfl rfl ?_
  refine me_iload_n (pc' := 43) (i := 1) dX11_receiveIt_42 rfl rfl rfl ?_
  refine me_bipush (pc' := 45) (v := 8) dX11_receiveIt_43 rfl kc_b8 ?_
  refine me_iload_n (pc' := 46) (i := 2) dX11_receiveIt_45 rfl rfl rfl ?_
  refine me_callV (As := [.int p0, .int 8, .int p1]) (st := []) (F' := (mm_Sq q)) (G' := (mm_Sq q)) (F'' := (mm_Sq q)) (pc' := 49) dX11_receiveIt_46 rfl mfX11_note rfl lkX11_115 kd_352 rfl (mm_ltm kd_352 hN) ⟨Nat.le_of_ble_eq_true rfl, Nat.le_of_ble_eq_true rfl⟩ (Nat.le_of_ble_eq_true rfl) (fun z => z) (rX11_note (q := q) p0 8 p1 h9 hN) (fun h11 e12 => Or.inl ⟨_, _, rfl, fun z => z, ?_⟩)
  show mm_E2 _ _ _ _ _ [] h11 _ _
  refine me_iconst (pc' := 50) (v := 0) dX11_receiveIt_49 rfl kc_i0 ?_
  refine me_istore (pc' := 52) (i := 6) (L' := [some (.ref 352), some (.int p0), some (.int p1), some (.int p2), some (.int p3), some (.int x2), some (.int 0)]) dX11_receiveIt_50 rfl (Nat.le_of_ble_eq_true rfl) (Nat.le_of_ble_eq_true rfl) rfl ?_
  exact mm_maskB [true, false, false, false, false, true, true] (rX11_receiveIt_L52 (q := q) x2 hN mm_F 0 h11)
def gX11_semicolon (h : mm_H) : Option (Bool × mm_H) :=
if (mh_I h 352 11) = 3 then
(gX11_token h).bind (fun (h2 : mm_H) =>
some (true, h2))
else
(gX11_wrong 1 h).bind (fun (x4 : (Bool × mm_H)) =>
some (x4.1, x4.2))
theorem rX11_semicolon {q : Nat × Nat} (h : mm_H) (hN : 358 ≤ q.1) : mm_R2 (mm_Sq q) (mm_Sq q) mX11_semicolon [.ref 352] h (gX11_semicolon h) lf_ze := by
  refine mm_body (L := [some (.ref 352)]) rfl (by decide +kernel) (Nat.le_of_ble_eq_true rfl) rfl ?_
  unfold gX11_semicolon
  refine me_aload_n (pc' := 1) (i := 0) dX11_semicolon_0 rfl rfl rfl ?_
  refine me_getI (pc' := 4) dX11_semicolon_1 rfl fkX11_45 kd_352 (mm_ltm kd_352 hN) rfl ?_
  refine me_iconst (pc' := 5) (v := 3) dX11_semicolon_4 rfl kc_i3 ?_
  refine me_icmp_eq (pc' := 8) (tgt := 14) dX11_semicolon_5 (by decide) rfl (fun c1 => ?_) (fun c1 => ?_)
  · refine me_aload_n (pc' := 15) (i := 0) dX11_semicolon_14 rfl rfl rfl ?_
    refine me_callV (As := []) (st := []) (F' := (mm_Sq q)) (G' := (mm_Sq q)) (F'' := (mm_Sq q)) (pc' := 18) dX11_semicolon_15 rfl mfX11_token rfl lkX11_157 kd_352 rfl (mm_ltm kd_352 hN) ⟨Nat.le_of_ble_eq_true rfl, Nat.le_of_ble_eq_true rfl⟩ (Nat.le_of_ble_eq_true rfl) (fun z => z) (rX11_token (q := q) h hN) (fun h2 e3 => Or.inl ⟨_, _, rfl, fun z => z, ?_⟩)
    show mm_E2 _ _ _ _ _ [] h2 _ _
    refine me_iconst (pc' := 19) (v := 1) dX11_semicolon_18 rfl kc_i1 ?_
    exact me_zret (b := true) dX11_semicolon_19 rfl (fun z => z) rfl
  · refine me_aload_n (pc' := 9) (i := 0) dX11_semicolon_8 rfl rfl rfl ?_
    refine me_iconst (pc' := 10) (v := 1) dX11_semicolon_9 rfl kc_i1 ?_
    refine me_callV (As := [.int 1]) (st := []) (F' := (mm_Sq q)) (G' := (mm_Sq q)) (F'' := (mm_Sq q)) (pc' := 13) dX11_semicolon_10 rfl mfX11_wrong rfl lkX11_160 kd_352 rfl (mm_ltm kd_352 hN) ⟨Nat.le_of_ble_eq_true rfl, Nat.le_of_ble_eq_true rfl⟩ (Nat.le_of_ble_eq_true rfl) (fun z => z) (rX11_wrong (q := q) 1 h hN) (fun x4 e5 => Or.inl ⟨_, _, rfl, fun z => z, ?_⟩)
    show mm_E2 _ _ _ _ _ [.int (mx_bi x4.1)] x4.2 _ _
    exact me_zret (b := x4.1) dX11_semicolon_13 rfl (fun z => z) rfl
def gX11_parseNewBatch (h : mm_H) : Option (Bool × mm_H) :=
if mm_ibd 2 4200 = true then
if (mh_I h 353 (Int32.toNatClampNeg (2))) = 20 then
(gX11_wrong 4 h).bind (fun (x34 : (Bool × mm_H)) =>
some (x34.1, x34.2))
else
(gX11_token h).bind (fun (h3 : mm_H) =>
(gX11_isShortWord h3).bind (fun (x5 : (Bool × mm_H)) =>
if x5.1 = true then
(gX11_productNamed ((mh_I x5.2 352 12)) (((mh_I x5.2 352 10) - (mh_I x5.2 352 12))) x5.2).bind (fun (x8 : Int32) =>
if x8 = (-1) then
(gX11_wrong 3 x5.2).bind (fun (x32 : (Bool × mm_H)) =>
some (x32.1, x32.2))
else
(gX11_token x5.2).bind (fun (h11 : mm_H) =>
if mm_ibd 2 4200 = true then
(some ((100 + ((mh_I h11 353 (Int32.toNatClampNeg (2))) * 4)))).bind (fun (x14 : Int32) =>
(gX11_parseRanged ((x14 + 1)) 1 999 h11).bind (fun (x15 : (Bool × mm_H)) =>
if x15.1 = true then
(gX11_parseRanged ((x14 + 2)) 0 9999 x15.2).bind (fun (x18 : (Bool × mm_H)) =>
if x18.1 = true then
(gX11_parseRanged ((x14 + 3)) 1 999 x18.2).bind (fun (x21 : (Bool × mm_H)) =>
if x21.1 = true then
(gX11_semicolon x21.2).bind (fun (x24 : (Bool × mm_H)) =>
if x24.1 = true then
if mm_ibd ((x14 + 1)) 4200 = true then
if mm_ibd ((x14 + 2)) 4200 = true then
if mm_ibd ((x14 + 3)) 4200 = true then
(gX11_receiveIt x8 ((mh_I x24.2 353 (Int32.toNatClampNeg ((x14 + 1))))) ((mh_I x24.2 353 (Int32.toNatClampNeg ((x14 + 2))))) ((mh_I x24.2 353 (Int32.toNatClampNeg ((x14 + 3))))) x24.2).bind (fun (x30 : (Int32 × mm_H)) =>
some (true, x30.2)) else none else none else none
else
some (false, x24.2))
else
some (false, x21.2))
else
some (false, x18.2))
else
some (false, x15.2))) else none))
else
some (false, x5.2))) else none
theorem rX11_parseNewBatch {q : Nat × Nat} (h : mm_H) (hN : 358 ≤ q.1) : mm_R2 (mm_Sq q) (mm_Sq q) mX11_parseNewBatch [.ref 352] h (gX11_parseNewBatch h) lf_ze := by
  refine mm_body (L := [some (.ref 352), none, none]) rfl (by decide +kernel) (Nat.le_of_ble_eq_true rfl) rfl ?_
  unfold gX11_parseNewBatch
  refine me_aload_n (pc' := 1) (i := 0) dX11_parseNewBatch_0 rfl rfl rfl ?_
  refine me_getR (pc' := 4) (q' := 353) dX11_parseNewBatch_1 rfl fkX11_13 kd_352 (mm_ltm kd_352 hN) rfl (mrX11_0 hN) ?_
  refine me_iconst (pc' := 5) (v := 2) dX11_parseNewBatch_4 rfl kc_i2 ?_
  refine mm_guard (fun c1 => ?_)
  refine me_iald (pc' := 6) dX11_parseNewBatch_5 rfl kd_353 (mm_ltm kd_353 hN) (mm_ibd_of c1) ?_
  refine me_bipush (pc' := 8) (v := 20) dX11_parseNewBatch_6 rfl kc_b20 ?_
  refine me_icmp_ne (pc' := 11) (tgt := 17) dX11_parseNewBatch_8 (by decide) rfl (fun c2 => ?_) (fun c2 => ?_)
  · refine me_aload_n (pc' := 18) (i := 0) dX11_parseNewBatch_17 rfl rfl rfl ?_
    refine me_callV (As := []) (st := []) (F' := (mm_Sq q)) (G' := (mm_Sq q)) (F'' := (mm_Sq q)) (pc' := 21) dX11_parseNewBatch_18 rfl mfX11_token rfl lkX11_157 kd_352 rfl (mm_ltm kd_352 hN) ⟨Nat.le_of_ble_eq_true rfl, Nat.le_of_ble_eq_true rfl⟩ (Nat.le_of_ble_eq_true rfl) (fun z => z) (rX11_token (q := q) h hN) (fun h3 e4 => Or.inl ⟨_, _, rfl, fun z => z, ?_⟩)
    show mm_E2 _ _ _ _ _ [] h3 _ _
    refine me_aload_n (pc' := 22) (i := 0) dX11_parseNewBatch_21 rfl rfl rfl ?_
    refine me_callV (As := []) (st := []) (F' := (mm_Sq q)) (G' := (mm_Sq q)) (F'' := (mm_Sq q)) (pc' := 25) dX11_parseNewBatch_22 rfl mfX11_isShortWord rfl lkX11_163 kd_352 rfl (mm_ltm kd_352 hN) ⟨Nat.le_of_ble_eq_true rfl, Nat.le_of_ble_eq_true rfl⟩ (Nat.le_of_ble_eq_true rfl) (fun z => z) (rX11_isShortWord (q := q) h3 hN) (fun x5 e6 => Or.inl ⟨_, _, rfl, fun z => z, ?_⟩)
    show mm_E2 _ _ _ _ _ [.int (mx_bi x5.1)] x5.2 _ _
    refine me_ifB_ne (pc' := 28) (tgt := 30) dX11_parseNewBatch_25 (by decide) rfl (fun c7 => ?_) (fun c7 => ?_)
    · refine me_aload_n (pc' := 31) (i := 0) dX11_parseNewBatch_30 rfl rfl rfl ?_
      refine me_aload_n (pc' := 32) (i := 0) dX11_parseNewBatch_31 rfl rfl rfl ?_
      refine me_getI (pc' := 35) dX11_parseNewBatch_32 rfl fkX11_48 kd_352 (mm_ltm kd_352 hN) rfl ?_
      refine me_aload_n (pc' := 36) (i := 0) dX11_parseNewBatch_35 rfl rfl rfl ?_
      refine me_getI (pc' := 39) dX11_parseNewBatch_36 rfl fkX11_42 kd_352 (mm_ltm kd_352 hN) rfl ?_
      refine me_aload_n (pc' := 40) (i := 0) dX11_parseNewBatch_39 rfl rfl rfl ?_
      refine me_getI (pc' := 43) dX11_parseNewBatch_40 rfl fkX11_48 kd_352 (mm_ltm kd_352 hN) rfl ?_
      refine me_isub (pc' := 44) dX11_parseNewBatch_43 rfl ?_
      refine me_callV (As := [.int (mh_I x5.2 352 12), .int ((mh_I x5.2 352 10) - (mh_I x5.2 352 12))]) (st := []) (F' := (mm_Sq q)) (G' := (mm_Sq q)) (F'' := (mm_Sq q)) (pc' := 47) dX11_parseNewBatch_44 rfl mfX11_productNamed rfl lkX11_166 kd_352 rfl (mm_ltm kd_352 hN) ⟨Nat.le_of_ble_eq_true rfl, Nat.le_of_ble_eq_true rfl⟩ (Nat.le_of_ble_eq_true rfl) (fun z => z) (rX11_productNamed (q := q) ((mh_I x5.2 352 12)) (((mh_I x5.2 352 10) - (mh_I x5.2 352 12))) x5.2 hN) (fun x8 e9 => Or.inl ⟨_, _, rfl, fun z => z, ?_⟩)
      show mm_E2 _ _ _ _ _ [.int x8] x5.2 _ _
      refine me_istore_n (pc' := 48) (i := 1) (L' := [some (.ref 352), some (.int x8), none]) dX11_parseNewBatch_47 rfl rfl (Nat.le_of_ble_eq_true rfl) (Nat.le_of_ble_eq_true rfl) rfl ?_
      refine me_iload_n (pc' := 49) (i := 1) dX11_parseNewBatch_48 rfl rfl rfl ?_
      refine me_iconst (pc' := 50) (v := (-1)) dX11_parseNewBatch_49 rfl kc_im1 ?_
      refine me_icmp_ne (pc' := 53) (tgt := 59) dX11_parseNewBatch_50 (by decide) rfl (fun c10 => ?_) (fun c10 => ?_)
      · refine me_aload_n (pc' := 60) (i := 0) dX11_parseNewBatch_59 rfl rfl rfl ?_
        refine me_callV (As := []) (st := []) (F' := (mm_Sq q)) (G' := (mm_Sq q)) (F'' := (mm_Sq q)) (pc' := 63) dX11_parseNewBatch_60 rfl mfX11_token rfl lkX11_157 kd_352 rfl (mm_ltm kd_352 hN) ⟨Nat.le_of_ble_eq_true rfl, Nat.le_of_ble_eq_true rfl⟩ (Nat.le_of_ble_eq_true rfl) (fun z => z) (rX11_token (q := q) x5.2 hN) (fun h11 e12 => Or.inl ⟨_, _, rfl, fun z => z, ?_⟩)
        show mm_E2 _ _ _ _ _ [] h11 _ _
        refine me_bipush (pc' := 65) (v := 100) dX11_parseNewBatch_63 rfl kc_b100 ?_
        refine me_aload_n (pc' := 66) (i := 0) dX11_parseNewBatch_65 rfl rfl rfl ?_
        refine me_getR (pc' := 69) (q' := 353) dX11_parseNewBatch_66 rfl fkX11_13 kd_352 (mm_ltm kd_352 hN) rfl (mrX11_0 hN) ?_
        refine me_iconst (pc' := 70) (v := 2) dX11_parseNewBatch_69 rfl kc_i2 ?_
        refine mm_guard (fun c13 => ?_)
        refine me_iald (pc' := 71) dX11_parseNewBatch_70 rfl kd_353 (mm_ltm kd_353 hN) (mm_ibd_of c13) ?_
        refine me_iconst (pc' := 72) (v := 4) dX11_parseNewBatch_71 rfl kc_i4 ?_
        refine me_imul (pc' := 73) dX11_parseNewBatch_72 rfl ?_
        refine me_iadd (pc' := 74) dX11_parseNewBatch_73 rfl ?_
        refine mm_bnd ((100 + ((mh_I h11 353 (Int32.toNatClampNeg (2))) * 4))) (fun x14 => [some (.ref 352), some (.int x8), none]) (fun x14 => [.int x14]) (fun _ => h11) (fun x14 => ?_)
        refine me_istore_n (pc' := 75) (i := 2) (L' := [some (.ref 352), some (.int x8), some (.int x14)]) dX11_parseNewBatch_74 rfl rfl (Nat.le_of_ble_eq_true rfl) (Nat.le_of_ble_eq_true rfl) rfl ?_
        refine me_aload_n (pc' := 76) (i := 0) dX11_parseNewBatch_75 rfl rfl rfl ?_
        refine me_iload_n (pc' := 77) (i := 2) dX11_parseNewBatch_76 rfl rfl rfl ?_
        refine me_iconst (pc' := 78) (v := 1) dX11_parseNewBatch_77 rfl kc_i1 ?_
        refine me_iadd (pc' := 79) dX11_parseNewBatch_78 rfl ?_
        refine me_iconst (pc' := 80) (v := 1) dX11_parseNewBatch_79 rfl kc_i1 ?_
        refine me_sipush (pc' := 83) (v := 999) dX11_parseNewBatch_80 rfl kc_s999 ?_
        refine me_callV (As := [.int (x14 + 1), .int 1, .int 999]) (st := []) (F' := (mm_Sq q)) (G' := (mm_Sq q)) (F'' := (mm_Sq q)) (pc' := 86) dX11_parseNewBatch_83 rfl mfX11_parseRanged rfl lkX11_169 kd_352 rfl (mm_ltm kd_352 hN) ⟨Nat.le_of_ble_eq_true rfl, Nat.le_of_ble_eq_true rfl⟩ (Nat.le_of_ble_eq_true rfl) (fun z => z) (rX11_parseRanged (q := q) ((x14 + 1)) 1 999 h11 hN) (fun x15 e16 => Or.inl ⟨_, _, rfl, fun z => z, ?_⟩)
        show mm_E2 _ _ _ _ _ [.int (mx_bi x15.1)] x15.2 _ _
        refine me_ifB_eq (pc' := 89) (tgt := 124) dX11_parseNewBatch_86 (by decide) rfl (fun c17 => ?_) (fun c17 => ?_)
        · refine me_iconst (pc' := 125) (v := 0) dX11_parseNewBatch_124 rfl kc_i0 ?_
          exact me_zret (b := false) dX11_parseNewBatch_125 rfl (fun z => z) rfl
        · refine me_aload_n (pc' := 90) (i := 0) dX11_parseNewBatch_89 rfl rfl rfl ?_
          refine me_iload_n (pc' := 91) (i := 2) dX11_parseNewBatch_90 rfl rfl rfl ?_
          refine me_iconst (pc' := 92) (v := 2) dX11_parseNewBatch_91 rfl kc_i2 ?_
          refine me_iadd (pc' := 93) dX11_parseNewBatch_92 rfl ?_
          refine me_iconst (pc' := 94) (v := 0) dX11_parseNewBatch_93 rfl kc_i0 ?_
          refine me_sipush (pc' := 97) (v := 9999) dX11_parseNewBatch_94 rfl kc_s9999 ?_
          refine me_callV (As := [.int (x14 + 2), .int 0, .int 9999]) (st := []) (F' := (mm_Sq q)) (G' := (mm_Sq q)) (F'' := (mm_Sq q)) (pc' := 100) dX11_parseNewBatch_97 rfl mfX11_parseRanged rfl lkX11_169 kd_352 rfl (mm_ltm kd_352 hN) ⟨Nat.le_of_ble_eq_true rfl, Nat.le_of_ble_eq_true rfl⟩ (Nat.le_of_ble_eq_true rfl) (fun z => z) (rX11_parseRanged (q := q) ((x14 + 2)) 0 9999 x15.2 hN) (fun x18 e19 => Or.inl ⟨_, _, rfl, fun z => z, ?_⟩)
          show mm_E2 _ _ _ _ _ [.int (mx_bi x18.1)] x18.2 _ _
          refine me_ifB_eq (pc' := 103) (tgt := 124) dX11_parseNewBatch_100 (by decide) rfl (fun c20 => ?_) (fun c20 => ?_)
          · refine me_iconst (pc' := 125) (v := 0) dX11_parseNewBatch_124 rfl kc_i0 ?_
            exact me_zret (b := false) dX11_parseNewBatch_125 rfl (fun z => z) rfl
          · refine me_aload_n (pc' := 104) (i := 0) dX11_parseNewBatch_103 rfl rfl rfl ?_
            refine me_iload_n (pc' := 105) (i := 2) dX11_parseNewBatch_104 rfl rfl rfl ?_
            refine me_iconst (pc' := 106) (v := 3) dX11_parseNewBatch_105 rfl kc_i3 ?_
            refine me_iadd (pc' := 107) dX11_parseNewBatch_106 rfl ?_
            refine me_iconst (pc' := 108) (v := 1) dX11_parseNewBatch_107 rfl kc_i1 ?_
            refine me_sipush (pc' := 111) (v := 999) dX11_parseNewBatch_108 rfl kc_s999 ?_
            refine me_callV (As := [.int (x14 + 3), .int 1, .int 999]) (st := []) (F' := (mm_Sq q)) (G' := (mm_Sq q)) (F'' := (mm_Sq q)) (pc' := 114) dX11_parseNewBatch_111 rfl mfX11_parseRanged rfl lkX11_169 kd_352 rfl (mm_ltm kd_352 hN) ⟨Nat.le_of_ble_eq_true rfl, Nat.le_of_ble_eq_true rfl⟩ (Nat.le_of_ble_eq_true rfl) (fun z => z) (rX11_parseRanged (q := q) ((x14 + 3)) 1 999 x18.2 hN) (fun x21 e22 => Or.inl ⟨_, _, rfl, fun z => z, ?_⟩)
            show mm_E2 _ _ _ _ _ [.int (mx_bi x21.1)] x21.2 _ _
            refine me_ifB_eq (pc' := 117) (tgt := 124) dX11_parseNewBatch_114 (by decide) rfl (fun c23 => ?_) (fun c23 => ?_)
            · refine me_iconst (pc' := 125) (v := 0) dX11_parseNewBatch_124 rfl kc_i0 ?_
              exact me_zret (b := false) dX11_parseNewBatch_125 rfl (fun z => z) rfl
            · refine me_aload_n (pc' := 118) (i := 0) dX11_parseNewBatch_117 rfl rfl rfl ?_
              refine me_callV (As := []) (st := []) (F' := (mm_Sq q)) (G' := (mm_Sq q)) (F'' := (mm_Sq q)) (pc' := 121) dX11_parseNewBatch_118 rfl mfX11_semicolon rfl lkX11_172 kd_352 rfl (mm_ltm kd_352 hN) ⟨Nat.le_of_ble_eq_true rfl, Nat.le_of_ble_eq_true rfl⟩ (Nat.le_of_ble_eq_true rfl) (fun z => z) (rX11_semicolon (q := q) x21.2 hN) (fun x24 e25 => Or.inl ⟨_, _, rfl, fun z => z, ?_⟩)
              show mm_E2 _ _ _ _ _ [.int (mx_bi x24.1)] x24.2 _ _
              refine me_ifB_ne (pc' := 124) (tgt := 126) dX11_parseNewBatch_121 (by decide) rfl (fun c26 => ?_) (fun c26 => ?_)
              · refine me_aload_n (pc' := 127) (i := 0) dX11_parseNewBatch_126 rfl rfl rfl ?_
                refine me_iload_n (pc' := 128) (i := 1) dX11_parseNewBatch_127 rfl rfl rfl ?_
                refine me_aload_n (pc' := 129) (i := 0) dX11_parseNewBatch_128 rfl rfl rfl ?_
                refine me_getR (pc' := 132) (q' := 353) dX11_parseNewBatch_129 rfl fkX11_13 kd_352 (mm_ltm kd_352 hN) rfl (mrX11_0 hN) ?_
                refine me_iload_n (pc' := 133) (i := 2) dX11_parseNewBatch_132 rfl rfl rfl ?_
                refine me_iconst (pc' := 134) (v := 1) dX11_parseNewBatch_133 rfl kc_i1 ?_
                refine me_iadd (pc' := 135) dX11_parseNewBatch_134 rfl ?_
                refine mm_guard (fun c27 => ?_)
                refine me_iald (pc' := 136) dX11_parseNewBatch_135 rfl kd_353 (mm_ltm kd_353 hN) (mm_ibd_of c27) ?_
                refine me_aload_n (pc' := 137) (i := 0) dX11_parseNewBatch_136 rfl rfl rfl ?_
                refine me_getR (pc' := 140) (q' := 353) dX11_parseNewBatch_137 rfl fkX11_13 kd_352 (mm_ltm kd_352 hN) rfl (mrX11_0 hN) ?_
                refine me_iload_n (pc' := 141) (i := 2) dX11_parseNewBatch_140 rfl rfl rfl ?_
                refine me_iconst (pc' := 142) (v := 2) dX11_parseNewBatch_141 rfl kc_i2 ?_
                refine me_iadd (pc' := 143) dX11_parseNewBatch_142 rfl ?_
                refine mm_guard (fun c28 => ?_)
                refine me_iald (pc' := 144) dX11_parseNewBatch_143 rfl kd_353 (mm_ltm kd_353 hN) (mm_ibd_of c28) ?_
                refine me_aload_n (pc' := 145) (i := 0) dX11_parseNewBatch_144 rfl rfl rfl ?_
                refine me_getR (pc' := 148) (q' := 353) dX11_parseNewBatch_145 rfl fkX11_13 kd_352 (mm_ltm kd_352 hN) rfl (mrX11_0 hN) ?_
                refine me_iload_n (pc' := 149) (i := 2) dX11_parseNewBatch_148 rfl rfl rfl ?_
                refine me_iconst (pc' := 150) (v := 3) dX11_parseNewBatch_149 rfl kc_i3 ?_
                refine me_iadd (pc' := 151) dX11_parseNewBatch_150 rfl ?_
                refine mm_guard (fun c29 => ?_)
                refine me_iald (pc' := 152) dX11_parseNewBatch_151 rfl kd_353 (mm_ltm kd_353 hN) (mm_ibd_of c29) ?_
                refine me_callV (As := [.int x8, .int (mh_I x24.2 353 (Int32.toNatClampNeg ((x14 + 1)))), .int (mh_I x24.2 353 (Int32.toNatClampNeg ((x14 + 2)))), .int (mh_I x24.2 353 (Int32.toNatClampNeg ((x14 + 3))))]) (st := []) (F' := (mm_Sq q)) (G' := (mm_Sq q)) (F'' := (mm_Sq q)) (pc' := 155) dX11_parseNewBatch_152 rfl mfX11_receiveIt rfl lkX11_175 kd_352 rfl (mm_ltm kd_352 hN) ⟨Nat.le_of_ble_eq_true rfl, Nat.le_of_ble_eq_true rfl⟩ (Nat.le_of_ble_eq_true rfl) (fun z => z) (rX11_receiveIt (q := q) x8 ((mh_I x24.2 353 (Int32.toNatClampNeg ((x14 + 1))))) ((mh_I x24.2 353 (Int32.toNatClampNeg ((x14 + 2))))) ((mh_I x24.2 353 (Int32.toNatClampNeg ((x14 + 3))))) x24.2 hN) (fun x30 e31 => Or.inl ⟨_, _, rfl, fun z => z, ?_⟩)
                show mm_E2 _ _ _ _ _ [.int x30.1] x30.2 _ _
                refine me_pop (pc' := 156) dX11_parseNewBatch_155 rfl rfl ?_
                refine me_iconst (pc' := 157) (v := 1) dX11_parseNewBatch_156 rfl kc_i1 ?_
                exact me_zret (b := true) dX11_parseNewBatch_157 rfl (fun z => z) rfl
              · refine me_iconst (pc' := 125) (v := 0) dX11_parseNewBatch_124 rfl kc_i0 ?_
                exact me_zret (b := false) dX11_parseNewBatch_125 rfl (fun z => z) rfl
      · refine me_aload_n (pc' := 54) (i := 0) dX11_parseNewBatch_53 rfl rfl rfl ?_
        refine me_iconst (pc' := 55) (v := 3) dX11_parseNewBatch_54 rfl kc_i3 ?_
        refine me_callV (As := [.int 3]) (st := []) (F' := (mm_Sq q)) (G' := (mm_Sq q)) (F'' := (mm_Sq q)) (pc' := 58) dX11_parseNewBatch_55 rfl mfX11_wrong rfl lkX11_160 kd_352 rfl (mm_ltm kd_352 hN) ⟨Nat.le_of_ble_eq_true rfl, Nat.le_of_ble_eq_true rfl⟩ (Nat.le_of_ble_eq_true rfl) (fun z => z) (rX11_wrong (q := q) 3 x5.2 hN) (fun x32 e33 => Or.inl ⟨_, _, rfl, fun z => z, ?_⟩)
        show mm_E2 _ _ _ _ _ [.int (mx_bi x32.1)] x32.2 _ _
        exact me_zret (b := x32.1) dX11_parseNewBatch_58 rfl (fun z => z) rfl
    · refine me_iconst (pc' := 29) (v := 0) dX11_parseNewBatch_28 rfl kc_i0 ?_
      exact me_zret (b := false) dX11_parseNewBatch_29 rfl (fun z => z) rfl
  · refine me_aload_n (pc' := 12) (i := 0) dX11_parseNewBatch_11 rfl rfl rfl ?_
    refine me_iconst (pc' := 13) (v := 4) dX11_parseNewBatch_12 rfl kc_i4 ?_
    refine me_callV (As := [.int 4]) (st := []) (F' := (mm_Sq q)) (G' := (mm_Sq q)) (F'' := (mm_Sq q)) (pc' := 16) dX11_parseNewBatch_13 rfl mfX11_wrong rfl lkX11_160 kd_352 rfl (mm_ltm kd_352 hN) ⟨Nat.le_of_ble_eq_true rfl, Nat.le_of_ble_eq_true rfl⟩ (Nat.le_of_ble_eq_true rfl) (fun z => z) (rX11_wrong (q := q) 4 h hN) (fun x34 e35 => Or.inl ⟨_, _, rfl, fun z => z, ?_⟩)
    show mm_E2 _ _ _ _ _ [.int (mx_bi x34.1)] x34.2 _ _
    exact me_zret (b := x34.1) dX11_parseNewBatch_16 rfl (fun z => z) rfl
def gX11_parseNewProduct_L89 (u16 : Int32) : Nat → Int32 → mm_H → Option (Bool × mm_H)
  | 0, _, _ => none
  | n + 1, w17, h18 =>
    if w17 < (mh_I h18 352 10) then
    if mm_ibd w17 600 = true then
    if mm_ibd ((((u16 + 1) + w17) - (mh_I h18 352 12))) 4200 = true then
    (some (ms_I h18 353 (Int32.toNatClampNeg ((((u16 + 1) + w17) - (mh_I h18 352 12)))) ((mh_I h18 355 (Int32.toNatClampNeg (w17)))))).bind (fun (h33 : mm_H) =>
    (some (w17 + 1)).bind (fun (x34 : Int32) =>
    gX11_parseNewProduct_L89 u16 n x34 h33)) else none else none
    else
    (gX11_token h18).bind (fun (h20 : mm_H) =>
    (gX11_parseRanged ((u16 + 7)) 0 999 h20).bind (fun (x22 : (Bool × mm_H)) =>
    if x22.1 = true then
    (gX11_semicolon x22.2).bind (fun (x25 : (Bool × mm_H)) =>
    if x25.1 = true then
    if mm_ibd 1 4200 = true then
    if mm_ibd 1 4200 = true then
    (some (ms_I x25.2 353 (Int32.toNatClampNeg (1)) (((mh_I x25.2 353 (Int32.toNatClampNeg (1))) + 1)))).bind (fun (h30 : mm_H) =>
    some (true, h30)) else none else none
    else
    some (false, x25.2))
    else
    some (false, x22.2)))
def gX11_parseNewProduct (h : mm_H) : Option (Bool × mm_H) :=
if mm_ibd 1 4200 = true then
if (mh_I h 353 (Int32.toNatClampNeg (1))) = 8 then
(gX11_wrong 4 h).bind (fun (x37 : (Bool × mm_H)) =>
some (x37.1, x37.2))
else
(gX11_token h).bind (fun (h3 : mm_H) =>
(gX11_isShortWord h3).bind (fun (x5 : (Bool × mm_H)) =>
if x5.1 = true then
(gX11_productNamed ((mh_I x5.2 352 12)) (((mh_I x5.2 352 10) - (mh_I x5.2 352 12))) x5.2).bind (fun (x8 : Int32) =>
if x8 = (-1) then
if mm_ibd 1 4200 = true then
(some ((4 + ((mh_I x5.2 353 (Int32.toNatClampNeg (1))) * 12)))).bind (fun (x12 : Int32) =>
if mm_ibd x12 4200 = true then
(some (ms_I x5.2 353 (Int32.toNatClampNeg (x12)) (((mh_I x5.2 352 10) - (mh_I x5.2 352 12))))).bind (fun (h14 : mm_H) =>
(some ((mh_I h14 352 12))).bind (fun (x15 : Int32) =>
gX11_parseNewProduct_L89 x12 mm_F x15 h14)) else none) else none
else
(gX11_wrong 3 x5.2).bind (fun (x35 : (Bool × mm_H)) =>
some (x35.1, x35.2)))
else
some (false, x5.2))) else none
theorem rX11_parseNewProduct_L89 {q : Nat × Nat}  (u16 : Int32)    (hN : 358 ≤ q.1) : ∀ (n : Nat) (w17 : Int32) (h18 : mm_H), mm_E2 (mm_Sq q) (mm_Sq q) mX11_parseNewProduct 89 [some (.ref 352), some (.int u16), some (.int w17)] [] h18 (gX11_parseNewProduct_L89 u16  n w17 h18) lf_ze := by
  intro n
  induction n with
  | zero =>
    intro w17 h18
    exact mm_none
  | succ n ih =>
    intro w17 h18
    rw [gX11_parseNewProduct_L89]
    refine me_iload_n (pc' := 90) (i := 2) dX11_parseNewProduct_89 rfl rfl rfl ?_
    refine me_aload_n (pc' := 91) (i := 0) dX11_parseNewProduct_90 rfl rfl rfl ?_
    refine me_getI (pc' := 94) dX11_parseNewProduct_91 rfl fkX11_42 kd_352 (mm_ltm kd_352 hN) rfl ?_
    refine me_icmp_ge (pc' := 97) (tgt := 124) dX11_parseNewProduct_94 (by decide) rfl (fun c19 => ?_) (fun c19 => ?_)
    · refine me_aload_n (pc' := 125) (i := 0) dX11_parseNewProduct_124 rfl rfl rfl ?_
      refine me_callV (As := []) (st := []) (F' := (mm_Sq q)) (G' := (mm_Sq q)) (F'' := (mm_Sq q)) (pc' := 128) dX11_parseNewProduct_125 rfl mfX11_token rfl lkX11_157 kd_352 rfl (mm_ltm kd_352 hN) ⟨Nat.le_of_ble_eq_true rfl, Nat.le_of_ble_eq_true rfl⟩ (Nat.le_of_ble_eq_true rfl) (fun z => z) (rX11_token (q := q) h18 hN) (fun h20 e21 => Or.inl ⟨_, _, rfl, fun z => z, ?_⟩)
      show mm_E2 _ _ _ _ _ [] h20 _ _
      refine me_aload_n (pc' := 129) (i := 0) dX11_parseNewProduct_128 rfl rfl rfl ?_
      refine me_iload_n (pc' := 130) (i := 1) dX11_parseNewProduct_129 rfl rfl rfl ?_
      refine me_bipush (pc' := 132) (v := 7) dX11_parseNewProduct_130 rfl kc_b7 ?_
      refine me_iadd (pc' := 133) dX11_parseNewProduct_132 rfl ?_
      refine me_iconst (pc' := 134) (v := 0) dX11_parseNewProduct_133 rfl kc_i0 ?_
      refine me_sipush (pc' := 137) (v := 999) dX11_parseNewProduct_134 rfl kc_s999 ?_
      refine me_callV (As := [.int (u16 + 7), .int 0, .int 999]) (st := []) (F' := (mm_Sq q)) (G' := (mm_Sq q)) (F'' := (mm_Sq q)) (pc' := 140) dX11_parseNewProduct_137 rfl mfX11_parseRanged rfl lkX11_169 kd_352 rfl (mm_ltm kd_352 hN) ⟨Nat.le_of_ble_eq_true rfl, Nat.le_of_ble_eq_true rfl⟩ (Nat.le_of_ble_eq_true rfl) (fun z => z) (rX11_parseRanged (q := q) ((u16 + 7)) 0 999 h20 hN) (fun x22 e23 => Or.inl ⟨_, _, rfl, fun z => z, ?_⟩)
      show mm_E2 _ _ _ _ _ [.int (mx_bi x22.1)] x22.2 _ _
      refine me_ifB_eq (pc' := 143) (tgt := 150) dX11_parseNewProduct_140 (by decide) rfl (fun c24 => ?_) (fun c24 => ?_)
      · refine me_iconst (pc' := 151) (v := 0) dX11_parseNewProduct_150 rfl kc_i0 ?_
        exact me_zret (b := false) dX11_parseNewProduct_151 rfl (fun z => z) rfl
      · refine me_aload_n (pc' := 144) (i := 0) dX11_parseNewProduct_143 rfl rfl rfl ?_
        refine me_callV (As := []) (st := []) (F' := (mm_Sq q)) (G' := (mm_Sq q)) (F'' := (mm_Sq q)) (pc' := 147) dX11_parseNewProduct_144 rfl mfX11_semicolon rfl lkX11_172 kd_352 rfl (mm_ltm kd_352 hN) ⟨Nat.le_of_ble_eq_true rfl, Nat.le_of_ble_eq_true rfl⟩ (Nat.le_of_ble_eq_true rfl) (fun z => z) (rX11_semicolon (q := q) x22.2 hN) (fun x25 e26 => Or.inl ⟨_, _, rfl, fun z => z, ?_⟩)
        show mm_E2 _ _ _ _ _ [.int (mx_bi x25.1)] x25.2 _ _
        refine me_ifB_ne (pc' := 150) (tgt := 152) dX11_parseNewProduct_147 (by decide) rfl (fun c27 => ?_) (fun c27 => ?_)
        · refine me_aload_n (pc' := 153) (i := 0) dX11_parseNewProduct_152 rfl rfl rfl ?_
          refine me_getR (pc' := 156) (q' := 353) dX11_parseNewProduct_153 rfl fkX11_13 kd_352 (mm_ltm kd_352 hN) rfl (mrX11_0 hN) ?_
          refine me_iconst (pc' := 157) (v := 1) dX11_parseNewProduct_156 rfl kc_i1 ?_
          refine me_dup2 (pc' := 158) dX11_parseNewProduct_157 rfl rfl rfl ?_
          refine mm_guard (fun c28 => ?_)
          refine me_iald (pc' := 159) dX11_parseNewProduct_158 rfl kd_353 (mm_ltm kd_353 hN) (mm_ibd_of c28) ?_
          refine me_iconst (pc' := 160) (v := 1) dX11_parseNewProduct_159 rfl kc_i1 ?_
          refine me_iadd (pc' := 161) dX11_parseNewProduct_160 rfl ?_
          refine mm_guard (fun c29 => ?_)
          refine me_iast (F' := (mm_Sq q)) (pc' := 162) dX11_parseNewProduct_161 rfl kd_353 (mm_ltm kd_353 hN) (mm_ibd_of c29) (fun z => z) ?_
          refine mm_bnd (ms_I x25.2 353 (Int32.toNatClampNeg (1)) (((mh_I x25.2 353 (Int32.toNatClampNeg (1))) + 1))) (fun _ => [some (.ref 352), some (.int u16), some (.int w17)]) (fun _ => []) (fun h30 => h30) (fun h30 => ?_)
          refine me_iconst (pc' := 163) (v := 1) dX11_parseNewProduct_162 rfl kc_i1 ?_
          exact me_zret (b := true) dX11_parseNewProduct_163 rfl (fun z => z) rfl
        · refine me_iconst (pc' := 151) (v := 0) dX11_parseNewProduct_150 rfl kc_i0 ?_
          exact me_zret (b := false) dX11_parseNewProduct_151 rfl (fun z => z) rfl
    · refine me_aload_n (pc' := 98) (i := 0) dX11_parseNewProduct_97 rfl rfl rfl ?_
      refine me_getR (pc' := 101) (q' := 353) dX11_parseNewProduct_98 rfl fkX11_13 kd_352 (mm_ltm kd_352 hN) rfl (mrX11_0 hN) ?_
      refine me_iload_n (pc' := 102) (i := 1) dX11_parseNewProduct_101 rfl rfl rfl ?_
      refine me_iconst (pc' := 103) (v := 1) dX11_parseNewProduct_102 rfl kc_i1 ?_
      refine me_iadd (pc' := 104) dX11_parseNewProduct_103 rfl ?_
      refine me_iload_n (pc' := 105) (i := 2) dX11_parseNewProduct_104 rfl rfl rfl ?_
      refine me_iadd (pc' := 106) dX11_parseNewProduct_105 rfl ?_
      refine me_aload_n (pc' := 107) (i := 0) dX11_parseNewProduct_106 rfl rfl rfl ?_
      refine me_getI (pc' := 110) dX11_parseNewProduct_107 rfl fkX11_48 kd_352 (mm_ltm kd_352 hN) rfl ?_
      refine me_isub (pc' := 111) dX11_parseNewProduct_110 rfl ?_
      refine me_aload_n (pc' := 112) (i := 0) dX11_parseNewProduct_111 rfl rfl rfl ?_
      refine me_getR (pc' := 115) (q' := 355) dX11_parseNewProduct_112 rfl fkX11_24 kd_352 (mm_ltm kd_352 hN) rfl (mrX11_3 hN) ?_
      refine me_iload_n (pc' := 116) (i := 2) dX11_parseNewProduct_115 rfl rfl rfl ?_
      refine mm_guard (fun c31 => ?_)
      refine me_iald (pc' := 117) dX11_parseNewProduct_116 rfl kd_355 (mm_ltm kd_355 hN) (mm_ibd_of c31) ?_
      refine mm_guard (fun c32 => ?_)
      refine me_iast (F' := (mm_Sq q)) (pc' := 118) dX11_parseNewProduct_117 rfl kd_353 (mm_ltm kd_353 hN) (mm_ibd_of c32) (fun z => z) ?_
      refine mm_bnd (ms_I h18 353 (Int32.toNatClampNeg ((((u16 + 1) + w17) - (mh_I h18 352 12)))) ((mh_I h18 355 (Int32.toNatClampNeg (w17))))) (fun _ => [some (.ref 352), some (.int u16), some (.int w17)]) (fun _ => []) (fun h33 => h33) (fun h33 => ?_)
      refine me_iinc (pc' := 121) (i := 2) (x := w17) (y := w17 + 1) (L' := [some (.ref 352), some (.int u16), some (.int (w17 + 1))]) dX11_parseNewProduct_118 rfl (Nat.le_of_ble_eq_true rfl) (Nat.le_of_ble_eq_true rfl) rfl (kc_plus kc_i1) rfl ?_
      refine mm_bnd (w17 + 1) (fun x34 => [some (.ref 352), some (.int u16), some (.int x34)]) (fun _ => []) (fun _ => h33) (fun x34 => ?_)
      refine me_goto (tgt := 89) dX11_parseNewProduct_121 (by decide) ?_
      exact ih x34 h33
theorem rX11_parseNewProduct {q : Nat × Nat} (h : mm_H) (hN : 358 ≤ q.1) : mm_R2 (mm_Sq q) (mm_Sq q) mX11_parseNewProduct [.ref 352] h (gX11_parseNewProduct h) lf_ze := by
  refine mm_body (L := [some (.ref 352), none, none]) rfl (by decide +kernel) (Nat.le_of_ble_eq_true rfl) rfl ?_
  unfold gX11_parseNewProduct
  refine me_aload_n (pc' := 1) (i := 0) dX11_parseNewProduct_0 rfl rfl rfl ?_
  refine me_getR (pc' := 4) (q' := 353) dX11_parseNewProduct_1 rfl fkX11_13 kd_352 (mm_ltm kd_352 hN) rfl (mrX11_0 hN) ?_
  refine me_iconst (pc' := 5) (v := 1) dX11_parseNewProduct_4 rfl kc_i1 ?_
  refine mm_guard (fun c1 => ?_)
  refine me_iald (pc' := 6) dX11_parseNewProduct_5 rfl kd_353 (mm_ltm kd_353 hN) (mm_ibd_of c1) ?_
  refine me_bipush (pc' := 8) (v := 8) dX11_parseNewProduct_6 rfl kc_b8 ?_
  refine me_icmp_ne (pc' := 11) (tgt := 17) dX11_parseNewProduct_8 (by decide) rfl (fun c2 => ?_) (fun c2 => ?_)
  · refine me_aload_n (pc' := 18) (i := 0) dX11_parseNewProduct_17 rfl rfl rfl ?_
    refine me_callV (As := []) (st := []) (F' := (mm_Sq q)) (G' := (mm_Sq q)) (F'' := (mm_Sq q)) (pc' := 21) dX11_parseNewProduct_18 rfl mfX11_token rfl lkX11_157 kd_352 rfl (mm_ltm kd_352 hN) ⟨Nat.le_of_ble_eq_true rfl, Nat.le_of_ble_eq_true rfl⟩ (Nat.le_of_ble_eq_true rfl) (fun z => z) (rX11_token (q := q) h hN) (fun h3 e4 => Or.inl ⟨_, _, rfl, fun z => z, ?_⟩)
    show mm_E2 _ _ _ _ _ [] h3 _ _
    refine me_aload_n (pc' := 22) (i := 0) dX11_parseNewProduct_21 rfl rfl rfl ?_
    refine me_callV (As := []) (st := []) (F' := (mm_Sq q)) (G' := (mm_Sq q)) (F'' := (mm_Sq q)) (pc' := 25) dX11_parseNewProduct_22 rfl mfX11_isShortWord rfl lkX11_163 kd_352 rfl (mm_ltm kd_352 hN) ⟨Nat.le_of_ble_eq_true rfl, Nat.le_of_ble_eq_true rfl⟩ (Nat.le_of_ble_eq_true rfl) (fun z => z) (rX11_isShortWord (q := q) h3 hN) (fun x5 e6 => Or.inl ⟨_, _, rfl, fun z => z, ?_⟩)
    show mm_E2 _ _ _ _ _ [.int (mx_bi x5.1)] x5.2 _ _
    refine me_ifB_ne (pc' := 28) (tgt := 30) dX11_parseNewProduct_25 (by decide) rfl (fun c7 => ?_) (fun c7 => ?_)
    · refine me_aload_n (pc' := 31) (i := 0) dX11_parseNewProduct_30 rfl rfl rfl ?_
      refine me_aload_n (pc' := 32) (i := 0) dX11_parseNewProduct_31 rfl rfl rfl ?_
      refine me_getI (pc' := 35) dX11_parseNewProduct_32 rfl fkX11_48 kd_352 (mm_ltm kd_352 hN) rfl ?_
      refine me_aload_n (pc' := 36) (i := 0) dX11_parseNewProduct_35 rfl rfl rfl ?_
      refine me_getI (pc' := 39) dX11_parseNewProduct_36 rfl fkX11_42 kd_352 (mm_ltm kd_352 hN) rfl ?_
      refine me_aload_n (pc' := 40) (i := 0) dX11_parseNewProduct_39 rfl rfl rfl ?_
      refine me_getI (pc' := 43) dX11_parseNewProduct_40 rfl fkX11_48 kd_352 (mm_ltm kd_352 hN) rfl ?_
      refine me_isub (pc' := 44) dX11_parseNewProduct_43 rfl ?_
      refine me_callV (As := [.int (mh_I x5.2 352 12), .int ((mh_I x5.2 352 10) - (mh_I x5.2 352 12))]) (st := []) (F' := (mm_Sq q)) (G' := (mm_Sq q)) (F'' := (mm_Sq q)) (pc' := 47) dX11_parseNewProduct_44 rfl mfX11_productNamed rfl lkX11_166 kd_352 rfl (mm_ltm kd_352 hN) ⟨Nat.le_of_ble_eq_true rfl, Nat.le_of_ble_eq_true rfl⟩ (Nat.le_of_ble_eq_true rfl) (fun z => z) (rX11_productNamed (q := q) ((mh_I x5.2 352 12)) (((mh_I x5.2 352 10) - (mh_I x5.2 352 12))) x5.2 hN) (fun x8 e9 => Or.inl ⟨_, _, rfl, fun z => z, ?_⟩)
      show mm_E2 _ _ _ _ _ [.int x8] x5.2 _ _
      refine me_iconst (pc' := 48) (v := (-1)) dX11_parseNewProduct_47 rfl kc_im1 ?_
      refine me_icmp_eq (pc' := 51) (tgt := 57) dX11_parseNewProduct_48 (by decide) rfl (fun c10 => ?_) (fun c10 => ?_)
      · refine me_iconst (pc' := 58) (v := 4) dX11_parseNewProduct_57 rfl kc_i4 ?_
        refine me_aload_n (pc' := 59) (i := 0) dX11_parseNewProduct_58 rfl rfl rfl ?_
        refine me_getR (pc' := 62) (q' := 353) dX11_parseNewProduct_59 rfl fkX11_13 kd_352 (mm_ltm kd_352 hN) rfl (mrX11_0 hN) ?_
        refine me_iconst (pc' := 63) (v := 1) dX11_parseNewProduct_62 rfl kc_i1 ?_
        refine mm_guard (fun c11 => ?_)
        refine me_iald (pc' := 64) dX11_parseNewProduct_63 rfl kd_353 (mm_ltm kd_353 hN) (mm_ibd_of c11) ?_
        refine me_bipush (pc' := 66) (v := 12) dX11_parseNewProduct_64 rfl kc_b12 ?_
        refine me_imul (pc' := 67) dX11_parseNewProduct_66 rfl ?_
        refine me_iadd (pc' := 68) dX11_parseNewProduct_67 rfl ?_
        refine mm_bnd ((4 + ((mh_I x5.2 353 (Int32.toNatClampNeg (1))) * 12))) (fun x12 => [some (.ref 352), none, none]) (fun x12 => [.int x12]) (fun _ => x5.2) (fun x12 => ?_)
        refine me_istore_n (pc' := 69) (i := 1) (L' := [some (.ref 352), some (.int x12), none]) dX11_parseNewProduct_68 rfl rfl (Nat.le_of_ble_eq_true rfl) (Nat.le_of_ble_eq_true rfl) rfl ?_
        refine me_aload_n (pc' := 70) (i := 0) dX11_parseNewProduct_69 rfl rfl rfl ?_
        refine me_getR (pc' := 73) (q' := 353) dX11_parseNewProduct_70 rfl fkX11_13 kd_352 (mm_ltm kd_352 hN) rfl (mrX11_0 hN) ?_
        refine me_iload_n (pc' := 74) (i := 1) dX11_parseNewProduct_73 rfl rfl rfl ?_
        refine me_aload_n (pc' := 75) (i := 0) dX11_parseNewProduct_74 rfl rfl rfl ?_
        refine me_getI (pc' := 78) dX11_parseNewProduct_75 rfl fkX11_42 kd_352 (mm_ltm kd_352 hN) rfl ?_
        refine me_aload_n (pc' := 79) (i := 0) dX11_parseNewProduct_78 rfl rfl rfl ?_
        refine me_getI (pc' := 82) dX11_parseNewProduct_79 rfl fkX11_48 kd_352 (mm_ltm kd_352 hN) rfl ?_
        refine me_isub (pc' := 83) dX11_parseNewProduct_82 rfl ?_
        refine mm_guard (fun c13 => ?_)
        refine me_iast (F' := (mm_Sq q)) (pc' := 84) dX11_parseNewProduct_83 rfl kd_353 (mm_ltm kd_353 hN) (mm_ibd_of c13) (fun z => z) ?_
        refine mm_bnd (ms_I x5.2 353 (Int32.toNatClampNeg (x12)) (((mh_I x5.2 352 10) - (mh_I x5.2 352 12)))) (fun _ => [some (.ref 352), some (.int x12), none]) (fun _ => []) (fun h14 => h14) (fun h14 => ?_)
        refine me_aload_n (pc' := 85) (i := 0) dX11_parseNewProduct_84 rfl rfl rfl ?_
        refine me_getI (pc' := 88) dX11_parseNewProduct_85 rfl fkX11_48 kd_352 (mm_ltm kd_352 hN) rfl ?_
        refine mm_bnd ((mh_I h14 352 12)) (fun x15 => [some (.ref 352), some (.int x12), none]) (fun x15 => [.int x15]) (fun _ => h14) (fun x15 => ?_)
        refine me_istore_n (pc' := 89) (i := 2) (L' := [some (.ref 352), some (.int x12), some (.int x15)]) dX11_parseNewProduct_88 rfl rfl (Nat.le_of_ble_eq_true rfl) (Nat.le_of_ble_eq_true rfl) rfl ?_
        exact rX11_parseNewProduct_L89 (q := q) x12 hN mm_F x15 h14
      · refine me_aload_n (pc' := 52) (i := 0) dX11_parseNewProduct_51 rfl rfl rfl ?_
        refine me_iconst (pc' := 53) (v := 3) dX11_parseNewProduct_52 rfl kc_i3 ?_
        refine me_callV (As := [.int 3]) (st := []) (F' := (mm_Sq q)) (G' := (mm_Sq q)) (F'' := (mm_Sq q)) (pc' := 56) dX11_parseNewProduct_53 rfl mfX11_wrong rfl lkX11_160 kd_352 rfl (mm_ltm kd_352 hN) ⟨Nat.le_of_ble_eq_true rfl, Nat.le_of_ble_eq_true rfl⟩ (Nat.le_of_ble_eq_true rfl) (fun z => z) (rX11_wrong (q := q) 3 x5.2 hN) (fun x35 e36 => Or.inl ⟨_, _, rfl, fun z => z, ?_⟩)
        show mm_E2 _ _ _ _ _ [.int (mx_bi x35.1)] x35.2 _ _
        exact me_zret (b := x35.1) dX11_parseNewProduct_56 rfl (fun z => z) rfl
    · refine me_iconst (pc' := 29) (v := 0) dX11_parseNewProduct_28 rfl kc_i0 ?_
      exact me_zret (b := false) dX11_parseNewProduct_29 rfl (fun z => z) rfl
  · refine me_aload_n (pc' := 12) (i := 0) dX11_parseNewProduct_11 rfl rfl rfl ?_
    refine me_iconst (pc' := 13) (v := 4) dX11_parseNewProduct_12 rfl kc_i4 ?_
    refine me_callV (As := [.int 4]) (st := []) (F' := (mm_Sq q)) (G' := (mm_Sq q)) (F'' := (mm_Sq q)) (pc' := 16) dX11_parseNewProduct_13 rfl mfX11_wrong rfl lkX11_160 kd_352 rfl (mm_ltm kd_352 hN) ⟨Nat.le_of_ble_eq_true rfl, Nat.le_of_ble_eq_true rfl⟩ (Nat.le_of_ble_eq_true rfl) (fun z => z) (rX11_wrong (q := q) 4 h hN) (fun x37 e38 => Or.inl ⟨_, _, rfl, fun z => z, ?_⟩)
    show mm_E2 _ _ _ _ _ [.int (mx_bi x37.1)] x37.2 _ _
    exact me_zret (b := x37.1) dX11_parseNewProduct_16 rfl (fun z => z) rfl
def gX11_parseSetup_L83 : Nat → mm_H → Option (Bool × mm_H)
  | 0, _ => none
  | n + 1, h19 =>
    (gX11_isWord 33 h19).bind (fun (x20 : Bool) =>
    if x20 = true then
    (gX11_parseNewBatch h19).bind (fun (x27 : (Bool × mm_H)) =>
    if x27.1 = true then
    gX11_parseSetup_L83 n x27.2
    else
    some (false, x27.2))
    else
    if (mh_I h19 352 11) = 0 then
    some (true, h19)
    else
    (gX11_wrong 1 h19).bind (fun (x24 : (Bool × mm_H)) =>
    if x24.1 = true then
    some (true, x24.2)
    else
    some (false, x24.2)))
def gX11_parseSetup_L65 : Nat → mm_H → Option (Bool × mm_H)
  | 0, _ => none
  | n + 1, h15 =>
    (gX11_isWord 32 h15).bind (fun (x16 : Bool) =>
    if x16 = true then
    (gX11_parseNewProduct h15).bind (fun (x30 : (Bool × mm_H)) =>
    if x30.1 = true then
    gX11_parseSetup_L65 n x30.2
    else
    some (false, x30.2))
    else
    gX11_parseSetup_L83 mm_F h15)
def gX11_parseSetup_L2 : Nat → Int32 → mm_H → Option (Bool × mm_H)
  | 0, _, _ => none
  | n + 1, w1, h2 =>
    if w1 < 420 then
    if mm_ibd w1 4200 = true then
    (some (ms_I h2 353 (Int32.toNatClampNeg (w1)) 0)).bind (fun (h38 : mm_H) =>
    (some (w1 + 1)).bind (fun (x39 : Int32) =>
    gX11_parseSetup_L2 n x39 h38)) else none
    else
    (gX11_isWord 31 h2).bind (fun (x4 : Bool) =>
    if x4 = true then
    (gX11_token h2).bind (fun (h7 : mm_H) =>
    (gX11_semicolon h7).bind (fun (x9 : (Bool × mm_H)) =>
    if x9.1 = true then
    (gX11_isWord 32 x9.2).bind (fun (x12 : Bool) =>
    if x12 = true then
    gX11_parseSetup_L65 mm_F x9.2
    else
    (gX11_wrong 1 x9.2).bind (fun (x33 : (Bool × mm_H)) =>
    some (x33.1, x33.2)))
    else
    some (false, x9.2)))
    else
    (gX11_wrong 1 h2).bind (fun (x35 : (Bool × mm_H)) =>
    some (x35.1, x35.2)))
def gX11_parseSetup (h : mm_H) : Option (Bool × mm_H) :=
gX11_parseSetup_L2 mm_F 0 h
theorem rX11_parseSetup_L83 {q : Nat × Nat}      (hN : 358 ≤ q.1) : ∀ (n : Nat) (h19 : mm_H), mm_E2 (mm_Sq q) (mm_Sq q) mX11_parseSetup 83 [some (.ref 352), none] [] h19 (gX11_parseSetup_L83  n h19) lf_ze := by
  intro n
  induction n with
  | zero =>
    intro h19
    exact mm_none
  | succ n ih =>
    intro h19
    rw [gX11_parseSetup_L83]
    refine me_aload_n (pc' := 84) (i := 0) dX11_parseSetup_83 rfl rfl rfl ?_
    refine me_ldc (pc' := 86) (q := 394) dX11_parseSetup_84 rfl (sr_33) rfl ?_
    refine me_callV (As := [.ref 394]) (st := []) (F' := (mm_Sq q)) (G' := (mm_Sq q)) (F'' := (mm_Sq q)) (pc' := 89) dX11_parseSetup_86 rfl mfX11_isWord rfl lkX11_181 kd_352 rfl (mm_ltm kd_352 hN) ⟨Nat.le_of_ble_eq_true rfl, Nat.le_of_ble_eq_true rfl⟩ (Nat.le_of_ble_eq_true rfl) (fun z => z) (rX11_isWord (q := q) 33 h19 (by decide) hN) (fun x20 e21 => Or.inl ⟨_, _, rfl, fun z => z, ?_⟩)
    show mm_E2 _ _ _ _ _ [.int (mx_bi x20)] h19 _ _
    refine me_ifB_eq (pc' := 92) (tgt := 101) dX11_parseSetup_89 (by decide) rfl (fun c22 => ?_) (fun c22 => ?_)
    · refine me_aload_n (pc' := 102) (i := 0) dX11_parseSetup_101 rfl rfl rfl ?_
      refine me_getI (pc' := 105) dX11_parseSetup_102 rfl fkX11_45 kd_352 (mm_ltm kd_352 hN) rfl ?_
      refine me_if_eq (pc' := 108) (tgt := 116) dX11_parseSetup_105 (by decide) rfl (fun c23 => ?_) (fun c23 => ?_)
      · refine me_iconst (pc' := 117) (v := 1) dX11_parseSetup_116 rfl kc_i1 ?_
        refine me_goto (tgt := 121) dX11_parseSetup_117 (by decide) ?_
        exact me_zret (b := true) dX11_parseSetup_121 rfl (fun z => z) rfl
      · refine me_aload_n (pc' := 109) (i := 0) dX11_parseSetup_108 rfl rfl rfl ?_
        refine me_iconst (pc' := 110) (v := 1) dX11_parseSetup_109 rfl kc_i1 ?_
        refine me_callV (As := [.int 1]) (st := []) (F' := (mm_Sq q)) (G' := (mm_Sq q)) (F'' := (mm_Sq q)) (pc' := 113) dX11_parseSetup_110 rfl mfX11_wrong rfl lkX11_160 kd_352 rfl (mm_ltm kd_352 hN) ⟨Nat.le_of_ble_eq_true rfl, Nat.le_of_ble_eq_true rfl⟩ (Nat.le_of_ble_eq_true rfl) (fun z => z) (rX11_wrong (q := q) 1 h19 hN) (fun x24 e25 => Or.inl ⟨_, _, rfl, fun z => z, ?_⟩)
        show mm_E2 _ _ _ _ _ [.int (mx_bi x24.1)] x24.2 _ _
        refine me_ifB_eq (pc' := 116) (tgt := 120) dX11_parseSetup_113 (by decide) rfl (fun c26 => ?_) (fun c26 => ?_)
        · refine me_iconst (pc' := 121) (v := 0) dX11_parseSetup_120 rfl kc_i0 ?_
          exact me_zret (b := false) dX11_parseSetup_121 rfl (fun z => z) rfl
        · refine me_iconst (pc' := 117) (v := 1) dX11_parseSetup_116 rfl kc_i1 ?_
          refine me_goto (tgt := 121) dX11_parseSetup_117 (by decide) ?_
          exact me_zret (b := true) dX11_parseSetup_121 rfl (fun z => z) rfl
    · refine me_aload_n (pc' := 93) (i := 0) dX11_parseSetup_92 rfl rfl rfl ?_
      refine me_callV (As := []) (st := []) (F' := (mm_Sq q)) (G' := (mm_Sq q)) (F'' := (mm_Sq q)) (pc' := 96) dX11_parseSetup_93 rfl mfX11_parseNewBatch rfl lkX11_192 kd_352 rfl (mm_ltm kd_352 hN) ⟨Nat.le_of_ble_eq_true rfl, Nat.le_of_ble_eq_true rfl⟩ (Nat.le_of_ble_eq_true rfl) (fun z => z) (rX11_parseNewBatch (q := q) h19 hN) (fun x27 e28 => Or.inl ⟨_, _, rfl, fun z => z, ?_⟩)
      show mm_E2 _ _ _ _ _ [.int (mx_bi x27.1)] x27.2 _ _
      refine me_ifB_ne (pc' := 99) (tgt := 83) dX11_parseSetup_96 (by decide) rfl (fun c29 => ?_) (fun c29 => ?_)
      · exact ih x27.2
      · refine me_iconst (pc' := 100) (v := 0) dX11_parseSetup_99 rfl kc_i0 ?_
        exact me_zret (b := false) dX11_parseSetup_100 rfl (fun z => z) rfl
theorem rX11_parseSetup_L65 {q : Nat × Nat}      (hN : 358 ≤ q.1) : ∀ (n : Nat) (h15 : mm_H), mm_E2 (mm_Sq q) (mm_Sq q) mX11_parseSetup 65 [some (.ref 352), none] [] h15 (gX11_parseSetup_L65  n h15) lf_ze := by
  intro n
  induction n with
  | zero =>
    intro h15
    exact mm_none
  | succ n ih =>
    intro h15
    rw [gX11_parseSetup_L65]
    refine me_aload_n (pc' := 66) (i := 0) dX11_parseSetup_65 rfl rfl rfl ?_
    refine me_ldc (pc' := 68) (q := 393) dX11_parseSetup_66 rfl (sr_32) rfl ?_
    refine me_callV (As := [.ref 393]) (st := []) (F' := (mm_Sq q)) (G' := (mm_Sq q)) (F'' := (mm_Sq q)) (pc' := 71) dX11_parseSetup_68 rfl mfX11_isWord rfl lkX11_181 kd_352 rfl (mm_ltm kd_352 hN) ⟨Nat.le_of_ble_eq_true rfl, Nat.le_of_ble_eq_true rfl⟩ (Nat.le_of_ble_eq_true rfl) (fun z => z) (rX11_isWord (q := q) 32 h15 (by decide) hN) (fun x16 e17 => Or.inl ⟨_, _, rfl, fun z => z, ?_⟩)
    show mm_E2 _ _ _ _ _ [.int (mx_bi x16)] h15 _ _
    refine me_ifB_eq (pc' := 74) (tgt := 83) dX11_parseSetup_71 (by decide) rfl (fun c18 => ?_) (fun c18 => ?_)
    · exact rX11_parseSetup_L83 (q := q) hN mm_F h15
    · refine me_aload_n (pc' := 75) (i := 0) dX11_parseSetup_74 rfl rfl rfl ?_
      refine me_callV (As := []) (st := []) (F' := (mm_Sq q)) (G' := (mm_Sq q)) (F'' := (mm_Sq q)) (pc' := 78) dX11_parseSetup_75 rfl mfX11_parseNewProduct rfl lkX11_187 kd_352 rfl (mm_ltm kd_352 hN) ⟨Nat.le_of_ble_eq_true rfl, Nat.le_of_ble_eq_true rfl⟩ (Nat.le_of_ble_eq_true rfl) (fun z => z) (rX11_parseNewProduct (q := q) h15 hN) (fun x30 e31 => Or.inl ⟨_, _, rfl, fun z => z, ?_⟩)
      show mm_E2 _ _ _ _ _ [.int (mx_bi x30.1)] x30.2 _ _
      refine me_ifB_ne (pc' := 81) (tgt := 65) dX11_parseSetup_78 (by decide) rfl (fun c32 => ?_) (fun c32 => ?_)
      · exact ih x30.2
      · refine me_iconst (pc' := 82) (v := 0) dX11_parseSetup_81 rfl kc_i0 ?_
        exact me_zret (b := false) dX11_parseSetup_82 rfl (fun z => z) rfl
theorem rX11_parseSetup_L2 {q : Nat × Nat}      (hN : 358 ≤ q.1) : ∀ (n : Nat) (w1 : Int32) (h2 : mm_H), mm_E2 (mm_Sq q) (mm_Sq q) mX11_parseSetup 2 [some (.ref 352), some (.int w1)] [] h2 (gX11_parseSetup_L2  n w1 h2) lf_ze := by
  intro n
  induction n with
  | zero =>
    intro w1 h2
    exact mm_none
  | succ n ih =>
    intro w1 h2
    rw [gX11_parseSetup_L2]
    refine me_iload_n (pc' := 3) (i := 1) dX11_parseSetup_2 rfl rfl rfl ?_
    refine me_sipush (pc' := 6) (v := 420) dX11_parseSetup_3 rfl kc_s420 ?_
    refine me_icmp_ge (pc' := 9) (tgt := 22) dX11_parseSetup_6 (by decide) rfl (fun c3 => ?_) (fun c3 => ?_)
    · refine me_aload_n (pc' := 23) (i := 0) dX11_parseSetup_22 rfl rfl rfl ?_
      refine me_ldc (pc' := 25) (q := 392) dX11_parseSetup_23 rfl (sr_31) rfl ?_
      refine me_callV (As := [.ref 392]) (st := []) (F' := (mm_Sq q)) (G' := (mm_Sq q)) (F'' := (mm_Sq q)) (pc' := 28) dX11_parseSetup_25 rfl mfX11_isWord rfl lkX11_181 kd_352 rfl (mm_ltm kd_352 hN) ⟨Nat.le_of_ble_eq_true rfl, Nat.le_of_ble_eq_true rfl⟩ (Nat.le_of_ble_eq_true rfl) (fun z => z) (rX11_isWord (q := q) 31 h2 (by decide) hN) (fun x4 e5 => Or.inl ⟨_, _, rfl, fun z => z, ?_⟩)
      show mm_E2 _ _ _ _ _ [.int (mx_bi x4)] h2 _ _
      refine me_ifB_ne (pc' := 31) (tgt := 37) dX11_parseSetup_28 (by decide) rfl (fun c6 => ?_) (fun c6 => ?_)
      · refine me_aload_n (pc' := 38) (i := 0) dX11_parseSetup_37 rfl rfl rfl ?_
        refine me_callV (As := []) (st := []) (F' := (mm_Sq q)) (G' := (mm_Sq q)) (F'' := (mm_Sq q)) (pc' := 41) dX11_parseSetup_38 rfl mfX11_token rfl lkX11_157 kd_352 rfl (mm_ltm kd_352 hN) ⟨Nat.le_of_ble_eq_true rfl, Nat.le_of_ble_eq_true rfl⟩ (Nat.le_of_ble_eq_true rfl) (fun z => z) (rX11_token (q := q) h2 hN) (fun h7 e8 => Or.inl ⟨_, _, rfl, fun z => z, ?_⟩)
        show mm_E2 _ _ _ _ _ [] h7 _ _
        refine me_aload_n (pc' := 42) (i := 0) dX11_parseSetup_41 rfl rfl rfl ?_
        refine me_callV (As := []) (st := []) (F' := (mm_Sq q)) (G' := (mm_Sq q)) (F'' := (mm_Sq q)) (pc' := 45) dX11_parseSetup_42 rfl mfX11_semicolon rfl lkX11_172 kd_352 rfl (mm_ltm kd_352 hN) ⟨Nat.le_of_ble_eq_true rfl, Nat.le_of_ble_eq_true rfl⟩ (Nat.le_of_ble_eq_true rfl) (fun z => z) (rX11_semicolon (q := q) h7 hN) (fun x9 e10 => Or.inl ⟨_, _, rfl, fun z => z, ?_⟩)
        show mm_E2 _ _ _ _ _ [.int (mx_bi x9.1)] x9.2 _ _
        refine me_ifB_ne (pc' := 48) (tgt := 50) dX11_parseSetup_45 (by decide) rfl (fun c11 => ?_) (fun c11 => ?_)
        · refine me_aload_n (pc' := 51) (i := 0) dX11_parseSetup_50 rfl rfl rfl ?_
          refine me_ldc (pc' := 53) (q := 393) dX11_parseSetup_51 rfl (sr_32) rfl ?_
          refine me_callV (As := [.ref 393]) (st := []) (F' := (mm_Sq q)) (G' := (mm_Sq q)) (F'' := (mm_Sq q)) (pc' := 56) dX11_parseSetup_53 rfl mfX11_isWord rfl lkX11_181 kd_352 rfl (mm_ltm kd_352 hN) ⟨Nat.le_of_ble_eq_true rfl, Nat.le_of_ble_eq_true rfl⟩ (Nat.le_of_ble_eq_true rfl) (fun z => z) (rX11_isWord (q := q) 32 x9.2 (by decide) hN) (fun x12 e13 => Or.inl ⟨_, _, rfl, fun z => z, ?_⟩)
          show mm_E2 _ _ _ _ _ [.int (mx_bi x12)] x9.2 _ _
          refine me_ifB_ne (pc' := 59) (tgt := 65) dX11_parseSetup_56 (by decide) rfl (fun c14 => ?_) (fun c14 => ?_)
          · exact mm_maskB [true, false] (rX11_parseSetup_L65 (q := q) hN mm_F x9.2)
          · refine me_aload_n (pc' := 60) (i := 0) dX11_parseSetup_59 rfl rfl rfl ?_
            refine me_iconst (pc' := 61) (v := 1) dX11_parseSetup_60 rfl kc_i1 ?_
            refine me_callV (As := [.int 1]) (st := []) (F' := (mm_Sq q)) (G' := (mm_Sq q)) (F'' := (mm_Sq q)) (pc' := 64) dX11_parseSetup_61 rfl mfX11_wrong rfl lkX11_160 kd_352 rfl (mm_ltm kd_352 hN) ⟨Nat.le_of_ble_eq_true rfl, Nat.le_of_ble_eq_true rfl⟩ (Nat.le_of_ble_eq_true rfl) (fun z => z) (rX11_wrong (q := q) 1 x9.2 hN) (fun x33 e34 => Or.inl ⟨_, _, rfl, fun z => z, ?_⟩)
            show mm_E2 _ _ _ _ _ [.int (mx_bi x33.1)] x33.2 _ _
            exact me_zret (b := x33.1) dX11_parseSetup_64 rfl (fun z => z) rfl
        · refine me_iconst (pc' := 49) (v := 0) dX11_parseSetup_48 rfl kc_i0 ?_
          exact me_zret (b := false) dX11_parseSetup_49 rfl (fun z => z) rfl
      · refine me_aload_n (pc' := 32) (i := 0) dX11_parseSetup_31 rfl rfl rfl ?_
        refine me_iconst (pc' := 33) (v := 1) dX11_parseSetup_32 rfl kc_i1 ?_
        refine me_callV (As := [.int 1]) (st := []) (F' := (mm_Sq q)) (G' := (mm_Sq q)) (F'' := (mm_Sq q)) (pc' := 36) dX11_parseSetup_33 rfl mfX11_wrong rfl lkX11_160 kd_352 rfl (mm_ltm kd_352 hN) ⟨Nat.le_of_ble_eq_true rfl, Nat.le_of_ble_eq_true rfl⟩ (Nat.le_of_ble_eq_true rfl) (fun z => z) (rX11_wrong (q := q) 1 h2 hN) (fun x35 e36 => Or.inl ⟨_, _, rfl, fun z => z, ?_⟩)
        show mm_E2 _ _ _ _ _ [.int (mx_bi x35.1)] x35.2 _ _
        exact me_zret (b := x35.1) dX11_parseSetup_36 rfl (fun z => z) rfl
    · refine me_aload_n (pc' := 10) (i := 0) dX11_parseSetup_9 rfl rfl rfl ?_
      refine me_getR (pc' := 13) (q' := 353) dX11_parseSetup_10 rfl fkX11_13 kd_352 (mm_ltm kd_352 hN) rfl (mrX11_0 hN) ?_
      refine me_iload_n (pc' := 14) (i := 1) dX11_parseSetup_13 rfl rfl rfl ?_
      refine me_iconst (pc' := 15) (v := 0) dX11_parseSetup_14 rfl kc_i0 ?_
      refine mm_guard (fun c37 => ?_)
      refine me_iast (F' := (mm_Sq q)) (pc' := 16) dX11_parseSetup_15 rfl kd_353 (mm_ltm kd_353 hN) (mm_ibd_of c37) (fun z => z) ?_
      refine mm_bnd (ms_I h2 353 (Int32.toNatClampNeg (w1)) 0) (fun _ => [some (.ref 352), some (.int w1)]) (fun _ => []) (fun h38 => h38) (fun h38 => ?_)
      refine me_iinc (pc' := 19) (i := 1) (x := w1) (y := w1 + 1) (L' := [some (.ref 352), some (.int (w1 + 1))]) dX11_parseSetup_16 rfl (Nat.le_of_ble_eq_true rfl) (Nat.le_of_ble_eq_true rfl) rfl (kc_plus kc_i1) rfl ?_
      refine mm_bnd (w1 + 1) (fun x39 => [some (.ref 352), some (.int x39)]) (fun _ => []) (fun _ => h38) (fun x39 => ?_)
      refine me_goto (tgt := 2) dX11_parseSetup_19 (by decide) ?_
      exact ih x39 h38
theorem rX11_parseSetup {q : Nat × Nat} (h : mm_H) (hN : 358 ≤ q.1) : mm_R2 (mm_Sq q) (mm_Sq q) mX11_parseSetup [.ref 352] h (gX11_parseSetup h) lf_ze := by
  refine mm_body (L := [some (.ref 352), none]) rfl (by decide +kernel) (Nat.le_of_ble_eq_true rfl) rfl ?_
  unfold gX11_parseSetup
  refine me_iconst (pc' := 1) (v := 0) dX11_parseSetup_0 rfl kc_i0 ?_
  refine me_istore_n (pc' := 2) (i := 1) (L' := [some (.ref 352), some (.int 0)]) dX11_parseSetup_1 rfl rfl (Nat.le_of_ble_eq_true rfl) (Nat.le_of_ble_eq_true rfl) rfl ?_
  exact rX11_parseSetup_L2 (q := q) hN mm_F 0 h
def gX11_fails (p0 : Int32) (p1 : Int32) (p2 : Int32) (h : mm_H) : Option (Bool × mm_H) :=
mm_jn (fun (y1 : Int32) =>
(some (ms_I h 352 9 y1)).bind (fun (h4 : mm_H) =>
if 0 < (mh_I h4 352 9) then
some (true, h4)
else
some (false, h4))) (fun (j3 : Int32 → Option (Bool × mm_H)) =>
if p0 = 0 then
if p1 = 0 then
if p2 = 0 then
j3 0
else
j3 3
else
j3 2
else
j3 1)
theorem rX11_fails {q : Nat × Nat} (p0 : Int32) (p1 : Int32) (p2 : Int32) (h : mm_H) (hN : 358 ≤ q.1) : mm_R2 (mm_Sq q) (mm_Sq q) mX11_fails [.ref 352, .int p0, .int p1, .int p2] h (gX11_fails p0 p1 p2 h) lf_ze := by
  refine mm_body (L := [some (.ref 352), some (.int p0), some (.int p1), some (.int p2)]) rfl (by decide +kernel) (Nat.le_of_ble_eq_true rfl) rfl ?_
  unfold gX11_fails
  refine me_aload_n (pc' := 1) (i := 0) dX11_fails_0 rfl rfl rfl ?_
  refine me_iload_n (pc' := 2) (i := 1) dX11_fails_1 rfl rfl rfl ?_
  refine mm_jnI (fun (j39 : Int32 → Option (Bool × mm_H)) => ∀ (y1 : Int32), mm_E2 (mm_Sq q) (mm_Sq q) mX11_fails 26 [some (.ref 352), none, none, none] [.int y1, .ref 352] h (j39 y1) lf_ze) ?_ (fun j3 j3p => ?_)
  · intro y1
    refine me_putI (F' := (mm_Sq q)) (pc' := 29) dX11_fails_26 rfl fkX11_1 kd_352 (mm_ltm kd_352 hN) rfl pgX11_9 (fun z => z) ?_
    refine mm_bnd (ms_I h 352 9 y1) (fun _ => [some (.ref 352), none, none, none]) (fun _ => []) (fun h4 => h4) (fun h4 => ?_)
    refine me_aload_n (pc' := 30) (i := 0) dX11_fails_29 rfl rfl rfl ?_
    refine me_getI (pc' := 33) dX11_fails_30 rfl fkX11_1 kd_352 (mm_ltm kd_352 hN) rfl ?_
    refine me_if_le (pc' := 36) (tgt := 40) dX11_fails_33 (by decide) rfl (fun c5 => ?_) (fun c5 => ?_)
    · refine me_iconst (pc' := 41) (v := 0) dX11_fails_40 rfl kc_i0 ?_
      exact me_zret (b := false) dX11_fails_41 rfl (fun z => z) rfl
    · refine me_iconst (pc' := 37) (v := 1) dX11_fails_36 rfl kc_i1 ?_
      refine me_goto (tgt := 41) dX11_fails_37 (by decide) ?_
      exact me_zret (b := true) dX11_fails_41 rfl (fun z => z) rfl
  refine me_if_eq (pc' := 5) (tgt := 9) dX11_fails_2 (by decide) rfl (fun c6 => ?_) (fun c6 => ?_)
  · refine me_iload_n (pc' := 10) (i := 2) dX11_fails_9 rfl rfl rfl ?_
    refine me_if_eq (pc' := 13) (tgt := 17) dX11_fails_10 (by decide) rfl (fun c7 => ?_) (fun c7 => ?_)
    · refine me_iload_n (pc' := 18) (i := 3) dX11_fails_17 rfl rfl rfl ?_
      refine me_if_eq (pc' := 21) (tgt := 25) dX11_fails_18 (by decide) rfl (fun c8 => ?_) (fun c8 => ?_)
      · refine me_iconst (pc' := 26) (v := 0) dX11_fails_25 rfl kc_i0 ?_
        exact mm_maskB [true, false, false, false] (j3p 0)
      · refine me_iconst (pc' := 22) (v := 3) dX11_fails_21 rfl kc_i3 ?_
        refine me_goto (tgt := 26) dX11_fails_22 (by decide) ?_
        exact mm_maskB [true, false, false, false] (j3p 3)
    · refine me_iconst (pc' := 14) (v := 2) dX11_fails_13 rfl kc_i2 ?_
      refine me_goto (tgt := 26) dX11_fails_14 (by decide) ?_
      exact mm_maskB [true, false, false, false] (j3p 2)
  · refine me_iconst (pc' := 6) (v := 1) dX11_fails_5 rfl kc_i1 ?_
    refine me_goto (tgt := 26) dX11_fails_6 (by decide) ?_
    exact mm_maskB [true, false, false, false] (j3p 1)
def gX11_isProduct (p0 : Int32) (h : mm_H) : Option Bool :=
if mm_ibd 1 4200 = true then
(gX11_in p0 0 (((mh_I h 353 (Int32.toNatClampNeg (1))) - 1)) h).bind (fun (x2 : Bool) =>
some x2) else none
theorem rX11_isProduct {q : Nat × Nat} (p0 : Int32) (h : mm_H) (hN : 358 ≤ q.1) : mm_R2 (mm_Sq q) (mm_Sq q) mX11_isProduct [.ref 352, .int p0] h (gX11_isProduct p0 h) (lf_z h) := by
  refine mm_body (L := [some (.ref 352), some (.int p0)]) rfl (by decide +kernel) (Nat.le_of_ble_eq_true rfl) rfl ?_
  unfold gX11_isProduct
  refine me_iload_n (pc' := 1) (i := 1) dX11_isProduct_0 rfl rfl rfl ?_
  refine me_iconst (pc' := 2) (v := 0) dX11_isProduct_1 rfl kc_i0 ?_
  refine me_aload_n (pc' := 3) (i := 0) dX11_isProduct_2 rfl rfl rfl ?_
  refine me_getR (pc' := 6) (q' := 353) dX11_isProduct_3 rfl fkX11_13 kd_352 (mm_ltm kd_352 hN) rfl (mrX11_0 hN) ?_
  refine me_iconst (pc' := 7) (v := 1) dX11_isProduct_6 rfl kc_i1 ?_
  refine mm_guard (fun c1 => ?_)
  refine me_iald (pc' := 8) dX11_isProduct_7 rfl kd_353 (mm_ltm kd_353 hN) (mm_ibd_of c1) ?_
  refine me_iconst (pc' := 9) (v := 1) dX11_isProduct_8 rfl kc_i1 ?_
  refine me_isub (pc' := 10) dX11_isProduct_9 rfl ?_
  refine me_callS (As := [.int p0, .int 0, .int ((mh_I h 353 (Int32.toNatClampNeg (1))) - 1)]) (st := []) (F' := (mm_Sq q)) (G' := (mm_Sq q)) (F'' := (mm_Sq q)) (pc' := 13) dX11_isProduct_10 rfl mfX11_in rfl lkX11_75 ⟨Nat.le_of_ble_eq_true rfl, Nat.le_of_ble_eq_true rfl⟩ (Nat.le_of_ble_eq_true rfl) (fun z => z) (rX11_in (q := q) p0 0 (((mh_I h 353 (Int32.toNatClampNeg (1))) - 1)) h hN) (fun x2 e3 => Or.inl ⟨_, _, rfl, fun z => z, ?_⟩)
  show mm_E2 _ _ _ _ _ [.int (mx_bi x2)] h _ _
  exact me_zret (b := x2) dX11_isProduct_13 rfl (fun z => z) rfl
def gX11_isBatch (p0 : Int32) (h : mm_H) : Option Bool :=
if mm_ibd 2 4200 = true then
(gX11_in p0 0 (((mh_I h 353 (Int32.toNatClampNeg (2))) - 1)) h).bind (fun (x2 : Bool) =>
some x2) else none
theorem rX11_isBatch {q : Nat × Nat} (p0 : Int32) (h : mm_H) (hN : 358 ≤ q.1) : mm_R2 (mm_Sq q) (mm_Sq q) mX11_isBatch [.ref 352, .int p0] h (gX11_isBatch p0 h) (lf_z h) := by
  refine mm_body (L := [some (.ref 352), some (.int p0)]) rfl (by decide +kernel) (Nat.le_of_ble_eq_true rfl) rfl ?_
  unfold gX11_isBatch
  refine me_iload_n (pc' := 1) (i := 1) dX11_isBatch_0 rfl rfl rfl ?_
  refine me_iconst (pc' := 2) (v := 0) dX11_isBatch_1 rfl kc_i0 ?_
  refine me_aload_n (pc' := 3) (i := 0) dX11_isBatch_2 rfl rfl rfl ?_
  refine me_getR (pc' := 6) (q' := 353) dX11_isBatch_3 rfl fkX11_13 kd_352 (mm_ltm kd_352 hN) rfl (mrX11_0 hN) ?_
  refine me_iconst (pc' := 7) (v := 2) dX11_isBatch_6 rfl kc_i2 ?_
  refine mm_guard (fun c1 => ?_)
  refine me_iald (pc' := 8) dX11_isBatch_7 rfl kd_353 (mm_ltm kd_353 hN) (mm_ibd_of c1) ?_
  refine me_iconst (pc' := 9) (v := 1) dX11_isBatch_8 rfl kc_i1 ?_
  refine me_isub (pc' := 10) dX11_isBatch_9 rfl ?_
  refine me_callS (As := [.int p0, .int 0, .int ((mh_I h 353 (Int32.toNatClampNeg (2))) - 1)]) (st := []) (F' := (mm_Sq q)) (G' := (mm_Sq q)) (F'' := (mm_Sq q)) (pc' := 13) dX11_isBatch_10 rfl mfX11_in rfl lkX11_75 ⟨Nat.le_of_ble_eq_true rfl, Nat.le_of_ble_eq_true rfl⟩ (Nat.le_of_ble_eq_true rfl) (fun z => z) (rX11_in (q := q) p0 0 (((mh_I h 353 (Int32.toNatClampNeg (2))) - 1)) h hN) (fun x2 e3 => Or.inl ⟨_, _, rfl, fun z => z, ?_⟩)
  show mm_E2 _ _ _ _ _ [.int (mx_bi x2)] h _ _
  exact me_zret (b := x2) dX11_isBatch_13 rfl (fun z => z) rfl
def gX11_isReservation (p0 : Int32) (h : mm_H) : Option Bool :=
if mm_ibd 3 4200 = true then
(gX11_in p0 0 (((mh_I h 353 (Int32.toNatClampNeg (3))) - 1)) h).bind (fun (x2 : Bool) =>
some x2) else none
theorem rX11_isReservation {q : Nat × Nat} (p0 : Int32) (h : mm_H) (hN : 358 ≤ q.1) : mm_R2 (mm_Sq q) (mm_Sq q) mX11_isReservation [.ref 352, .int p0] h (gX11_isReservation p0 h) (lf_z h) := by
  refine mm_body (L := [some (.ref 352), some (.int p0)]) rfl (by decide +kernel) (Nat.le_of_ble_eq_true rfl) rfl ?_
  unfold gX11_isReservation
  refine me_iload_n (pc' := 1) (i := 1) dX11_isReservation_0 rfl rfl rfl ?_
  refine me_iconst (pc' := 2) (v := 0) dX11_isReservation_1 rfl kc_i0 ?_
  refine me_aload_n (pc' := 3) (i := 0) dX11_isReservation_2 rfl rfl rfl ?_
  refine me_getR (pc' := 6) (q' := 353) dX11_isReservation_3 rfl fkX11_13 kd_352 (mm_ltm kd_352 hN) rfl (mrX11_0 hN) ?_
  refine me_iconst (pc' := 7) (v := 3) dX11_isReservation_6 rfl kc_i3 ?_
  refine mm_guard (fun c1 => ?_)
  refine me_iald (pc' := 8) dX11_isReservation_7 rfl kd_353 (mm_ltm kd_353 hN) (mm_ibd_of c1) ?_
  refine me_iconst (pc' := 9) (v := 1) dX11_isReservation_8 rfl kc_i1 ?_
  refine me_isub (pc' := 10) dX11_isReservation_9 rfl ?_
  refine me_callS (As := [.int p0, .int 0, .int ((mh_I h 353 (Int32.toNatClampNeg (3))) - 1)]) (st := []) (F' := (mm_Sq q)) (G' := (mm_Sq q)) (F'' := (mm_Sq q)) (pc' := 13) dX11_isReservation_10 rfl mfX11_in rfl lkX11_75 ⟨Nat.le_of_ble_eq_true rfl, Nat.le_of_ble_eq_true rfl⟩ (Nat.le_of_ble_eq_true rfl) (fun z => z) (rX11_in (q := q) p0 0 (((mh_I h 353 (Int32.toNatClampNeg (3))) - 1)) h hN) (fun x2 e3 => Or.inl ⟨_, _, rfl, fun z => z, ?_⟩)
  show mm_E2 _ _ _ _ _ [.int (mx_bi x2)] h _ _
  exact me_zret (b := x2) dX11_isReservation_13 rfl (fun z => z) rfl
def gX11_ofBatch (p0 : Int32) (p1 : Int32) (h : mm_H) : Option Int32 :=
if mm_ibd (((100 + (p0 * 4)) + p1)) 4200 = true then
some ((mh_I h 353 (Int32.toNatClampNeg (((100 + (p0 * 4)) + p1))))) else none
theorem rX11_ofBatch {q : Nat × Nat} (p0 : Int32) (p1 : Int32) (h : mm_H) (hN : 358 ≤ q.1) : mm_R2 (mm_Sq q) (mm_Sq q) mX11_ofBatch [.ref 352, .int p0, .int p1] h (gX11_ofBatch p0 p1 h) (lf_i h) := by
  refine mm_body (L := [some (.ref 352), some (.int p0), some (.int p1)]) rfl (by decide +kernel) (Nat.le_of_ble_eq_true rfl) rfl ?_
  unfold gX11_ofBatch
  refine me_aload_n (pc' := 1) (i := 0) dX11_ofBatch_0 rfl rfl rfl ?_
  refine me_getR (pc' := 4) (q' := 353) dX11_ofBatch_1 rfl fkX11_13 kd_352 (mm_ltm kd_352 hN) rfl (mrX11_0 hN) ?_
  refine me_bipush (pc' := 6) (v := 100) dX11_ofBatch_4 rfl kc_b100 ?_
  refine me_iload_n (pc' := 7) (i := 1) dX11_ofBatch_6 rfl rfl rfl ?_
  refine me_iconst (pc' := 8) (v := 4) dX11_ofBatch_7 rfl kc_i4 ?_
  refine me_imul (pc' := 9) dX11_ofBatch_8 rfl ?_
  refine me_iadd (pc' := 10) dX11_ofBatch_9 rfl ?_
  refine me_iload_n (pc' := 11) (i := 2) dX11_ofBatch_10 rfl rfl rfl ?_
  refine me_iadd (pc' := 12) dX11_ofBatch_11 rfl ?_
  refine mm_guard (fun c1 => ?_)
  refine me_iald (pc' := 13) dX11_ofBatch_12 rfl kd_353 (mm_ltm kd_353 hN) (mm_ibd_of c1) ?_
  exact me_iret dX11_ofBatch_13 rfl (fun z => z) rfl
def gX11_ofReservation (p0 : Int32) (p1 : Int32) (h : mm_H) : Option Int32 :=
if mm_ibd (((180 + (p0 * 24)) + p1)) 4200 = true then
some ((mh_I h 353 (Int32.toNatClampNeg (((180 + (p0 * 24)) + p1))))) else none
theorem rX11_ofReservation {q : Nat × Nat} (p0 : Int32) (p1 : Int32) (h : mm_H) (hN : 358 ≤ q.1) : mm_R2 (mm_Sq q) (mm_Sq q) mX11_ofReservation [.ref 352, .int p0, .int p1] h (gX11_ofReservation p0 p1 h) (lf_i h) := by
  refine mm_body (L := [some (.ref 352), some (.int p0), some (.int p1)]) rfl (by decide +kernel) (Nat.le_of_ble_eq_true rfl) rfl ?_
  unfold gX11_ofReservation
  refine me_aload_n (pc' := 1) (i := 0) dX11_ofReservation_0 rfl rfl rfl ?_
  refine me_getR (pc' := 4) (q' := 353) dX11_ofReservation_1 rfl fkX11_13 kd_352 (mm_ltm kd_352 hN) rfl (mrX11_0 hN) ?_
  refine me_sipush (pc' := 7) (v := 180) dX11_ofReservation_4 rfl kc_s180 ?_
  refine me_iload_n (pc' := 8) (i := 1) dX11_ofReservation_7 rfl rfl rfl ?_
  refine me_bipush (pc' := 10) (v := 24) dX11_ofReservation_8 rfl kc_b24 ?_
  refine me_imul (pc' := 11) dX11_ofReservation_10 rfl ?_
  refine me_iadd (pc' := 12) dX11_ofReservation_11 rfl ?_
  refine me_iload_n (pc' := 13) (i := 2) dX11_ofReservation_12 rfl rfl rfl ?_
  refine me_iadd (pc' := 14) dX11_ofReservation_13 rfl ?_
  refine mm_guard (fun c1 => ?_)
  refine me_iald (pc' := 15) dX11_ofReservation_14 rfl kd_353 (mm_ltm kd_353 hN) (mm_ibd_of c1) ?_
  exact me_iret dX11_ofReservation_15 rfl (fun z => z) rfl
def gX11_copyBlock_L2 (u1 : Int32) (u2 : Int32) : Nat → Int32 → mm_H → Option mm_H
  | 0, _, _ => none
  | n + 1, w3, h4 =>
    if w3 < 420 then
    if mm_ibd (((u1 * 420) + w3)) 4200 = true then
    if mm_ibd (((u2 * 420) + w3)) 4200 = true then
    (some (ms_I h4 353 (Int32.toNatClampNeg (((u2 * 420) + w3))) ((mh_I h4 353 (Int32.toNatClampNeg (((u1 * 420) + w3))))))).bind (fun (h8 : mm_H) =>
    (some (w3 + 1)).bind (fun (x9 : Int32) =>
    gX11_copyBlock_L2 u1 u2 n x9 h8)) else none else none
    else
    some h4
def gX11_copyBlock (p0 : Int32) (p1 : Int32) (h : mm_H) : Option mm_H :=
gX11_copyBlock_L2 p0 p1 mm_F 0 h
theorem rX11_copyBlock_L2 {q : Nat × Nat}  (u1 : Int32) (u2 : Int32)    (hN : 358 ≤ q.1) : ∀ (n : Nat) (w3 : Int32) (h4 : mm_H), mm_E2 (mm_Sq q) (mm_Sq q) mX11_copyBlock 2 [some (.ref 352), some (.int u1), some (.int u2), some (.int w3)] [] h4 (gX11_copyBlock_L2 u1 u2  n w3 h4) lf_v := by
  intro n
  induction n with
  | zero =>
    intro w3 h4
    exact mm_none
  | succ n ih =>
    intro w3 h4
    rw [gX11_copyBlock_L2]
    refine me_iload_n (pc' := 3) (i := 3) dX11_copyBlock_2 rfl rfl rfl ?_
    refine me_sipush (pc' := 6) (v := 420) dX11_copyBlock_3 rfl kc_s420 ?_
    refine me_icmp_ge (pc' := 9) (tgt := 39) dX11_copyBlock_6 (by decide) rfl (fun c5 => ?_) (fun c5 => ?_)
    · exact me_vret dX11_copyBlock_39 rfl (fun z => z) rfl
    · refine me_aload_n (pc' := 10) (i := 0) dX11_copyBlock_9 rfl rfl rfl ?_
      refine me_getR (pc' := 13) (q' := 353) dX11_copyBlock_10 rfl fkX11_13 kd_352 (mm_ltm kd_352 hN) rfl (mrX11_0 hN) ?_
      refine me_iload_n (pc' := 14) (i := 2) dX11_copyBlock_13 rfl rfl rfl ?_
      refine me_sipush (pc' := 17) (v := 420) dX11_copyBlock_14 rfl kc_s420 ?_
      refine me_imul (pc' := 18) dX11_copyBlock_17 rfl ?_
      refine me_iload_n (pc' := 19) (i := 3) dX11_copyBlock_18 rfl rfl rfl ?_
      refine me_iadd (pc' := 20) dX11_copyBlock_19 rfl ?_
      refine me_aload_n (pc' := 21) (i := 0) dX11_copyBlock_20 rfl rfl rfl ?_
      refine me_getR (pc' := 24) (q' := 353) dX11_copyBlock_21 rfl fkX11_13 kd_352 (mm_ltm kd_352 hN) rfl (mrX11_0 hN) ?_
      refine me_iload_n (pc' := 25) (i := 1) dX11_copyBlock_24 rfl rfl rfl ?_
      refine me_sipush (pc' := 28) (v := 420) dX11_copyBlock_25 rfl kc_s420 ?_
      refine me_imul (pc' := 29) dX11_copyBlock_28 rfl ?_
      refine me_iload_n (pc' := 30) (i := 3) dX11_copyBlock_29 rfl rfl rfl ?_
      refine me_iadd (pc' := 31) dX11_copyBlock_30 rfl ?_
      refine mm_guard (fun c6 => ?_)
      refine me_iald (pc' := 32) dX11_copyBlock_31 rfl kd_353 (mm_ltm kd_353 hN) (mm_ibd_of c6) ?_
      refine mm_guard (fun c7 => ?_)
      refine me_iast (F' := (mm_Sq q)) (pc' := 33) dX11_copyBlock_32 rfl kd_353 (mm_ltm kd_353 hN) (mm_ibd_of c7) (fun z => z) ?_
      refine mm_bnd (ms_I h4 353 (Int32.toNatClampNeg (((u2 * 420) + w3))) ((mh_I h4 353 (Int32.toNatClampNeg (((u1 * 420) + w3)))))) (fun _ => [some (.ref 352), some (.int u1), some (.int u2), some (.int w3)]) (fun _ => []) (fun h8 => h8) (fun h8 => ?_)
      refine me_iinc (pc' := 36) (i := 3) (x := w3) (y := w3 + 1) (L' := [some (.ref 352), some (.int u1), some (.int u2), some (.int (w3 + 1))]) dX11_copyBlock_33 rfl (Nat.le_of_ble_eq_true rfl) (Nat.le_of_ble_eq_true rfl) rfl (kc_plus kc_i1) rfl ?_
      refine mm_bnd (w3 + 1) (fun x9 => [some (.ref 352), some (.int u1), some (.int u2), some (.int x9)]) (fun _ => []) (fun _ => h8) (fun x9 => ?_)
      refine me_goto (tgt := 2) dX11_copyBlock_36 (by decide) ?_
      exact ih x9 h8
theorem rX11_copyBlock {q : Nat × Nat} (p0 : Int32) (p1 : Int32) (h : mm_H) (hN : 358 ≤ q.1) : mm_R2 (mm_Sq q) (mm_Sq q) mX11_copyBlock [.ref 352, .int p0, .int p1] h (gX11_copyBlock p0 p1 h) lf_v := by
  refine mm_body (L := [some (.ref 352), some (.int p0), some (.int p1), none]) rfl (by decide +kernel) (Nat.le_of_ble_eq_true rfl) rfl ?_
  unfold gX11_copyBlock
  refine me_iconst (pc' := 1) (v := 0) dX11_copyBlock_0 rfl kc_i0 ?_
  refine me_istore_n (pc' := 2) (i := 3) (L' := [some (.ref 352), some (.int p0), some (.int p1), some (.int 0)]) dX11_copyBlock_1 rfl rfl (Nat.le_of_ble_eq_true rfl) (Nat.le_of_ble_eq_true rfl) rfl ?_
  exact rX11_copyBlock_L2 (q := q) p0 p1 hN mm_F 0 h
def gX11_remember_L11 (u7 : Int32) : Nat → Int32 → mm_H → Option mm_H
  | 0, _, _ => none
  | n + 1, w8, h9 =>
    if w8 < 6 then
    (gX11_copyBlock ((w8 + 1)) w8 h9).bind (fun (h15 : mm_H) =>
    (some (w8 + 1)).bind (fun (x17 : Int32) =>
    gX11_remember_L11 u7 n x17 h15))
    else
    (some (ms_I h9 352 2 (((mh_I h9 352 2) - 1)))).bind (fun (h11 : mm_H) =>
    (some (ms_I h11 352 2 (((mh_I h11 352 2) + 1)))).bind (fun (h12 : mm_H) =>
    (gX11_copyBlock u7 ((mh_I h12 352 2)) h12).bind (fun (h13 : mm_H) =>
    some h13)))
def gX11_remember (p0 : Int32) (h : mm_H) : Option mm_H :=
mm_jn (fun (h1 : mm_H) =>
(some (ms_I h1 352 2 (((mh_I h1 352 2) + 1)))).bind (fun (h3 : mm_H) =>
(gX11_copyBlock p0 ((mh_I h3 352 2)) h3).bind (fun (h4 : mm_H) =>
some h4))) (fun (j2 : mm_H → Option mm_H) =>
if (mh_I h 352 2) = 6 then
gX11_remember_L11 p0 mm_F 1 h
else
j2 h)
theorem rX11_remember_L11 {q : Nat × Nat}  (u7 : Int32)    (hN : 358 ≤ q.1) : ∀ (n : Nat) (w8 : Int32) (h9 : mm_H), mm_E2 (mm_Sq q) (mm_Sq q) mX11_remember 11 [some (.ref 352), some (.int u7), some (.int w8)] [] h9 (gX11_remember_L11 u7  n w8 h9) lf_v := by
  intro n
  induction n with
  | zero =>
    intro w8 h9
    exact mm_none
  | succ n ih =>
    intro w8 h9
    rw [gX11_remember_L11]
    refine me_iload_n (pc' := 12) (i := 2) dX11_remember_11 rfl rfl rfl ?_
    refine me_bipush (pc' := 14) (v := 6) dX11_remember_12 rfl kc_b6 ?_
    refine me_icmp_ge (pc' := 17) (tgt := 31) dX11_remember_14 (by decide) rfl (fun c10 => ?_) (fun c10 => ?_)
    · refine me_aload_n (pc' := 32) (i := 0) dX11_remember_31 rfl rfl rfl ?_
      refine me_dup (pc' := 33) dX11_remember_32 rfl rfl ?_
      refine me_getI (pc' := 36) dX11_remember_33 rfl fkX11_21 kd_352 (mm_ltm kd_352 hN) rfl ?_
      refine me_iconst (pc' := 37) (v := 1) dX11_remember_36 rfl kc_i1 ?_
      refine me_isub (pc' := 38) dX11_remember_37 rfl ?_
      refine me_putI (F' := (mm_Sq q)) (pc' := 41) dX11_remember_38 rfl fkX11_21 kd_352 (mm_ltm kd_352 hN) rfl pgX11_2 (fun z => z) ?_
      refine mm_bnd (ms_I h9 352 2 (((mh_I h9 352 2) - 1))) (fun _ => [some (.ref 352), some (.int u7), some (.int w8)]) (fun _ => []) (fun h11 => h11) (fun h11 => ?_)
      refine me_aload_n (pc' := 42) (i := 0) dX11_remember_41 rfl rfl rfl ?_
      refine me_dup (pc' := 43) dX11_remember_42 rfl rfl ?_
      refine me_getI (pc' := 46) dX11_remember_43 rfl fkX11_21 kd_352 (mm_ltm kd_352 hN) rfl ?_
      refine me_iconst (pc' := 47) (v := 1) dX11_remember_46 rfl kc_i1 ?_
      refine me_iadd (pc' := 48) dX11_remember_47 rfl ?_
      refine me_putI (F' := (mm_Sq q)) (pc' := 51) dX11_remember_48 rfl fkX11_21 kd_352 (mm_ltm kd_352 hN) rfl pgX11_2 (fun z => z) ?_
      refine mm_bnd (ms_I h11 352 2 (((mh_I h11 352 2) + 1))) (fun _ => [some (.ref 352), some (.int u7), some (.int w8)]) (fun _ => []) (fun h12 => h12) (fun h12 => ?_)
      refine me_aload_n (pc' := 52) (i := 0) dX11_remember_51 rfl rfl rfl ?_
      refine me_iload_n (pc' := 53) (i := 1) dX11_remember_52 rfl rfl rfl ?_
      refine me_aload_n (pc' := 54) (i := 0) dX11_remember_53 rfl rfl rfl ?_
      refine me_getI (pc' := 57) dX11_remember_54 rfl fkX11_21 kd_352 (mm_ltm kd_352 hN) rfl ?_
      refine me_callV (As := [.int u7, .int (mh_I h12 352 2)]) (st := []) (F' := (mm_Sq q)) (G' := (mm_Sq q)) (F'' := (mm_Sq q)) (pc' := 60) dX11_remember_57 rfl mfX11_copyBlock rfl lkX11_79 kd_352 rfl (mm_ltm kd_352 hN) ⟨Nat.le_of_ble_eq_true rfl, Nat.le_of_ble_eq_true rfl⟩ (Nat.le_of_ble_eq_true rfl) (fun z => z) (rX11_copyBlock (q := q) u7 ((mh_I h12 352 2)) h12 hN) (fun h13 e14 => Or.inl ⟨_, _, rfl, fun z => z, ?_⟩)
      show mm_E2 _ _ _ _ _ [] h13 _ _
      exact me_vret dX11_remember_60 rfl (fun z => z) rfl
    · refine me_aload_n (pc' := 18) (i := 0) dX11_remember_17 rfl rfl rfl ?_
      refine me_iload_n (pc' := 19) (i := 2) dX11_remember_18 rfl rfl rfl ?_
      refine me_iconst (pc' := 20) (v := 1) dX11_remember_19 rfl kc_i1 ?_
      refine me_iadd (pc' := 21) dX11_remember_20 rfl ?_
      refine me_iload_n (pc' := 22) (i := 2) dX11_remember_21 rfl rfl rfl ?_
      refine me_callV (As := [.int (w8 + 1), .int w8]) (st := []) (F' := (mm_Sq q)) (G' := (mm_Sq q)) (F'' := (mm_Sq q)) (pc' := 25) dX11_remember_22 rfl mfX11_copyBlock rfl lkX11_79 kd_352 rfl (mm_ltm kd_352 hN) ⟨Nat.le_of_ble_eq_true rfl, Nat.le_of_ble_eq_true rfl⟩ (Nat.le_of_ble_eq_true rfl) (fun z => z) (rX11_copyBlock (q := q) ((w8 + 1)) w8 h9 hN) (fun h15 e16 => Or.inl ⟨_, _, rfl, fun z => z, ?_⟩)
      show mm_E2 _ _ _ _ _ [] h15 _ _
      refine me_iinc (pc' := 28) (i := 2) (x := w8) (y := w8 + 1) (L' := [some (.ref 352), some (.int u7), some (.int (w8 + 1))]) dX11_remember_25 rfl (Nat.le_of_ble_eq_true rfl) (Nat.le_of_ble_eq_true rfl) rfl (kc_plus kc_i1) rfl ?_
      refine mm_bnd (w8 + 1) (fun x17 => [some (.ref 352), some (.int u7), some (.int x17)]) (fun _ => []) (fun _ => h15) (fun x17 => ?_)
      refine me_goto (tgt := 11) dX11_remember_28 (by decide) ?_
      exact ih x17 h15
theorem rX11_remember {q : Nat × Nat} (p0 : Int32) (h : mm_H) (hN : 358 ≤ q.1) : mm_R2 (mm_Sq q) (mm_Sq q) mX11_remember [.ref 352, .int p0] h (gX11_remember p0 h) lf_v := by
  refine mm_body (L := [some (.ref 352), some (.int p0), none]) rfl (by decide +kernel) (Nat.le_of_ble_eq_true rfl) rfl ?_
  unfold gX11_remember
  refine me_aload_n (pc' := 1) (i := 0) dX11_remember_0 rfl rfl rfl ?_
  refine me_getI (pc' := 4) dX11_remember_1 rfl fkX11_21 kd_352 (mm_ltm kd_352 hN) rfl ?_
  refine me_bipush (pc' := 6) (v := 6) dX11_remember_4 rfl kc_b6 ?_
  refine mm_jnI (fun (j29 : mm_H → Option mm_H) => ∀ (h1 : mm_H), mm_E2 (mm_Sq q) (mm_Sq q) mX11_remember 41 [some (.ref 352), some (.int p0), none] [] h1 (j29 h1) lf_v) ?_ (fun j2 j2p => ?_)
  · intro h1
    refine me_aload_n (pc' := 42) (i := 0) dX11_remember_41 rfl rfl rfl ?_
    refine me_dup (pc' := 43) dX11_remember_42 rfl rfl ?_
    refine me_getI (pc' := 46) dX11_remember_43 rfl fkX11_21 kd_352 (mm_ltm kd_352 hN) rfl ?_
    refine me_iconst (pc' := 47) (v := 1) dX11_remember_46 rfl kc_i1 ?_
    refine me_iadd (pc' := 48) dX11_remember_47 rfl ?_
    refine me_putI (F' := (mm_Sq q)) (pc' := 51) dX11_remember_48 rfl fkX11_21 kd_352 (mm_ltm kd_352 hN) rfl pgX11_2 (fun z => z) ?_
    refine mm_bnd (ms_I h1 352 2 (((mh_I h1 352 2) + 1))) (fun _ => [some (.ref 352), some (.int p0), none]) (fun _ => []) (fun h3 => h3) (fun h3 => ?_)
    refine me_aload_n (pc' := 52) (i := 0) dX11_remember_51 rfl rfl rfl ?_
    refine me_iload_n (pc' := 53) (i := 1) dX11_remember_52 rfl rfl rfl ?_
    refine me_aload_n (pc' := 54) (i := 0) dX11_remember_53 rfl rfl rfl ?_
    refine me_getI (pc' := 57) dX11_remember_54 rfl fkX11_21 kd_352 (mm_ltm kd_352 hN) rfl ?_
    refine me_callV (As := [.int p0, .int (mh_I h3 352 2)]) (st := []) (F' := (mm_Sq q)) (G' := (mm_Sq q)) (F'' := (mm_Sq q)) (pc' := 60) dX11_remember_57 rfl mfX11_copyBlock rfl lkX11_79 kd_352 rfl (mm_ltm kd_352 hN) ⟨Nat.le_of_ble_eq_true rfl, Nat.le_of_ble_eq_true rfl⟩ (Nat.le_of_ble_eq_true rfl) (fun z => z) (rX11_copyBlock (q := q) p0 ((mh_I h3 352 2)) h3 hN) (fun h4 e5 => Or.inl ⟨_, _, rfl, fun z => z, ?_⟩)
    show mm_E2 _ _ _ _ _ [] h4 _ _
    exact me_vret dX11_remember_60 rfl (fun z => z) rfl
  refine me_icmp_ne (pc' := 9) (tgt := 41) dX11_remember_6 (by decide) rfl (fun c6 => ?_) (fun c6 => ?_)
  · exact j2p h
  · refine me_iconst (pc' := 10) (v := 1) dX11_remember_9 rfl kc_i1 ?_
    refine me_istore_n (pc' := 11) (i := 2) (L' := [some (.ref 352), some (.int p0), some (.int 1)]) dX11_remember_10 rfl rfl (Nat.le_of_ble_eq_true rfl) (Nat.le_of_ble_eq_true rfl) rfl ?_
    exact rX11_remember_L11 (q := q) p0 hN mm_F 1 h
def gX11_isOpenOne (p0 : Int32) (h : mm_H) : Option Bool :=
(gX11_ofReservation p0 3 h).bind (fun (x1 : Int32) =>
if x1 = 0 then
some true
else
some false)
theorem rX11_isOpenOne {q : Nat × Nat} (p0 : Int32) (h : mm_H) (hN : 358 ≤ q.1) : mm_R2 (mm_Sq q) (mm_Sq q) mX11_isOpenOne [.ref 352, .int p0] h (gX11_isOpenOne p0 h) (lf_z h) := by
  refine mm_body (L := [some (.ref 352), some (.int p0)]) rfl (by decide +kernel) (Nat.le_of_ble_eq_true rfl) rfl ?_
  unfold gX11_isOpenOne
  refine me_aload_n (pc' := 1) (i := 0) dX11_isOpenOne_0 rfl rfl rfl ?_
  refine me_iload_n (pc' := 2) (i := 1) dX11_isOpenOne_1 rfl rfl rfl ?_
  refine me_iconst (pc' := 3) (v := 3) dX11_isOpenOne_2 rfl kc_i3 ?_
  refine me_callV (As := [.int p0, .int 3]) (st := []) (F' := (mm_Sq q)) (G' := (mm_Sq q)) (F'' := (mm_Sq q)) (pc' := 6) dX11_isOpenOne_3 rfl mfX11_ofReservation rfl lkX11_83 kd_352 rfl (mm_ltm kd_352 hN) ⟨Nat.le_of_ble_eq_true rfl, Nat.le_of_ble_eq_true rfl⟩ (Nat.le_of_ble_eq_true rfl) (fun z => z) (rX11_ofReservation (q := q) p0 3 h hN) (fun x1 e2 => Or.inl ⟨_, _, rfl, fun z => z, ?_⟩)
  show mm_E2 _ _ _ _ _ [.int x1] h _ _
  refine me_if_ne (pc' := 9) (tgt := 13) dX11_isOpenOne_6 (by decide) rfl (fun c3 => ?_) (fun c3 => ?_)
  · refine me_iconst (pc' := 14) (v := 0) dX11_isOpenOne_13 rfl kc_i0 ?_
    exact me_zret (b := false) dX11_isOpenOne_14 rfl (fun z => z) rfl
  · refine me_iconst (pc' := 10) (v := 1) dX11_isOpenOne_9 rfl kc_i1 ?_
    refine me_goto (tgt := 14) dX11_isOpenOne_10 (by decide) ?_
    exact me_zret (b := true) dX11_isOpenOne_14 rfl (fun z => z) rfl
def gX11_held_L4 (u1 : Int32) (h : mm_H) : Nat → Int32 → Int32 → Option Int32
  | 0, _, _ => none
  | n + 1, w2, w3 =>
    if mm_ibd 3 4200 = true then
    if w3 < (mh_I h 353 (Int32.toNatClampNeg (3))) then
    (gX11_isOpenOne w3 h).bind (fun (x6 : Bool) =>
    mm_jn (fun (y8 : Int32) (y9 : Int32) =>
    (some ((y9 + y8))).bind (fun (x11 : Int32) =>
    (some (w3 + 1)).bind (fun (x12 : Int32) =>
    gX11_held_L4 u1 h n x11 x12))) (fun (j10 : Int32 → Int32 → Option Int32) =>
    if x6 = true then
    (gX11_ofReservation w3 ((4 + u1)) h).bind (fun (x14 : Int32) =>
    j10 x14 w2)
    else
    j10 0 w2))
    else
    some w2 else none
def gX11_held (p0 : Int32) (h : mm_H) : Option Int32 :=
gX11_held_L4 p0 h mm_F 0 0
theorem rX11_held_L4 {q : Nat × Nat}  (u1 : Int32)  (h : mm_H)  (hN : 358 ≤ q.1) : ∀ (n : Nat) (w2 : Int32) (w3 : Int32), mm_E2 (mm_Sq q) (mm_Sq q) mX11_held 4 [some (.ref 352), some (.int u1), some (.int w2), some (.int w3)] [] h (gX11_held_L4 u1 h n w2 w3) (lf_i h) := by
  intro n
  induction n with
  | zero =>
    intro w2 w3
    exact mm_none
  | succ n ih =>
    intro w2 w3
    rw [gX11_held_L4]
    refine me_iload_n (pc' := 5) (i := 3) dX11_held_4 rfl rfl rfl ?_
    refine me_aload_n (pc' := 6) (i := 0) dX11_held_5 rfl rfl rfl ?_
    refine me_getR (pc' := 9) (q' := 353) dX11_held_6 rfl fkX11_13 kd_352 (mm_ltm kd_352 hN) rfl (mrX11_0 hN) ?_
    refine me_iconst (pc' := 10) (v := 3) dX11_held_9 rfl kc_i3 ?_
    refine mm_guard (fun c4 => ?_)
    refine me_iald (pc' := 11) dX11_held_10 rfl kd_353 (mm_ltm kd_353 hN) (mm_ibd_of c4) ?_
    refine me_icmp_ge (pc' := 14) (tgt := 43) dX11_held_11 (by decide) rfl (fun c5 => ?_) (fun c5 => ?_)
    · refine me_iload_n (pc' := 44) (i := 2) dX11_held_43 rfl rfl rfl ?_
      exact me_iret dX11_held_44 rfl (fun z => z) rfl
    · refine me_iload_n (pc' := 15) (i := 2) dX11_held_14 rfl rfl rfl ?_
      refine me_aload_n (pc' := 16) (i := 0) dX11_held_15 rfl rfl rfl ?_
      refine me_iload_n (pc' := 17) (i := 3) dX11_held_16 rfl rfl rfl ?_
      refine me_callV (As := [.int w3]) (st := [.int w2]) (F' := (mm_Sq q)) (G' := (mm_Sq q)) (F'' := (mm_Sq q)) (pc' := 20) dX11_held_17 rfl mfX11_isOpenOne rfl lkX11_87 kd_352 rfl (mm_ltm kd_352 hN) ⟨Nat.le_of_ble_eq_true rfl, Nat.le_of_ble_eq_true rfl⟩ (Nat.le_of_ble_eq_true rfl) (fun z => z) (rX11_isOpenOne (q := q) w3 h hN) (fun x6 e7 => Or.inl ⟨_, _, rfl, fun z => z, ?_⟩)
      show mm_E2 _ _ _ _ _ [.int (mx_bi x6), .int w2] h _ _
      refine mm_jnI (fun (j109 : Int32 → Int32 → Option Int32) => ∀ (y8 : Int32) (y9 : Int32), mm_E2 (mm_Sq q) (mm_Sq q) mX11_held 35 [some (.ref 352), some (.int u1), none, some (.int w3)] [.int y8, .int y9] h (j109 y8 y9) (lf_i h)) ?_ (fun j10 j10p => ?_)
      · intro y8 y9
        refine me_iadd (pc' := 36) dX11_held_35 rfl ?_
        refine mm_bnd ((y9 + y8)) (fun x11 => [some (.ref 352), some (.int u1), none, some (.int w3)]) (fun x11 => [.int x11]) (fun _ => h) (fun x11 => ?_)
        refine me_istore_n (pc' := 37) (i := 2) (L' := [some (.ref 352), some (.int u1), some (.int x11), some (.int w3)]) dX11_held_36 rfl rfl (Nat.le_of_ble_eq_true rfl) (Nat.le_of_ble_eq_true rfl) rfl ?_
        refine me_iinc (pc' := 40) (i := 3) (x := w3) (y := w3 + 1) (L' := [some (.ref 352), some (.int u1), some (.int x11), some (.int (w3 + 1))]) dX11_held_37 rfl (Nat.le_of_ble_eq_true rfl) (Nat.le_of_ble_eq_true rfl) rfl (kc_plus kc_i1) rfl ?_
        refine mm_bnd (w3 + 1) (fun x12 => [some (.ref 352), some (.int u1), some (.int x11), some (.int x12)]) (fun _ => []) (fun _ => h) (fun x12 => ?_)
        refine me_goto (tgt := 4) dX11_held_40 (by decide) ?_
        exact ih x11 x12
      refine me_ifB_eq (pc' := 23) (tgt := 34) dX11_held_20 (by decide) rfl (fun c13 => ?_) (fun c13 => ?_)
      · refine me_iconst (pc' := 35) (v := 0) dX11_held_34 rfl kc_i0 ?_
        exact mm_maskB [true, true, false, true] (j10p 0 w2)
      · refine me_aload_n (pc' := 24) (i := 0) dX11_held_23 rfl rfl rfl ?_
        refine me_iload_n (pc' := 25) (i := 3) dX11_held_24 rfl rfl rfl ?_
        refine me_iconst (pc' := 26) (v := 4) dX11_held_25 rfl kc_i4 ?_
        refine me_iload_n (pc' := 27) (i := 1) dX11_held_26 rfl rfl rfl ?_
        refine me_iadd (pc' := 28) dX11_held_27 rfl ?_
        refine me_callV (As := [.int w3, .int (4 + u1)]) (st := [.int w2]) (F' := (mm_Sq q)) (G' := (mm_Sq q)) (F'' := (mm_Sq q)) (pc' := 31) dX11_held_28 rfl mfX11_ofReservation rfl lkX11_83 kd_352 rfl (mm_ltm kd_352 hN) ⟨Nat.le_of_ble_eq_true rfl, Nat.le_of_ble_eq_true rfl⟩ (Nat.le_of_ble_eq_true rfl) (fun z => z) (rX11_ofReservation (q := q) w3 ((4 + u1)) h hN) (fun x14 e15 => Or.inl ⟨_, _, rfl, fun z => z, ?_⟩)
        show mm_E2 _ _ _ _ _ [.int x14, .int w2] h _ _
        refine me_goto (tgt := 35) dX11_held_31 (by decide) ?_
        exact mm_maskB [true, true, false, true] (j10p x14 w2)
theorem rX11_held {q : Nat × Nat} (p0 : Int32) (h : mm_H) (hN : 358 ≤ q.1) : mm_R2 (mm_Sq q) (mm_Sq q) mX11_held [.ref 352, .int p0] h (gX11_held p0 h) (lf_i h) := by
  refine mm_body (L := [some (.ref 352), some (.int p0), none, none]) rfl (by decide +kernel) (Nat.le_of_ble_eq_true rfl) rfl ?_
  unfold gX11_held
  refine me_iconst (pc' := 1) (v := 0) dX11_held_0 rfl kc_i0 ?_
  refine me_istore_n (pc' := 2) (i := 2) (L' := [some (.ref 352), some (.int p0), some (.int 0), none]) dX11_held_1 rfl rfl (Nat.le_of_ble_eq_true rfl) (Nat.le_of_ble_eq_true rfl) rfl ?_
  refine me_iconst (pc' := 3) (v := 0) dX11_held_2 rfl kc_i0 ?_
  refine me_istore_n (pc' := 4) (i := 3) (L' := [some (.ref 352), some (.int p0), some (.int 0), some (.int 0)]) dX11_held_3 rfl rfl (Nat.le_of_ble_eq_true rfl) (Nat.le_of_ble_eq_true rfl) rfl ?_
  exact rX11_held_L4 (q := q) p0 h hN mm_F 0 0
def gX11_free (p0 : Int32) (h : mm_H) : Option Int32 :=
(gX11_ofBatch p0 1 h).bind (fun (x1 : Int32) =>
(gX11_held p0 h).bind (fun (x3 : Int32) =>
some ((x1 - x3))))
theorem rX11_free {q : Nat × Nat} (p0 : Int32) (h : mm_H) (hN : 358 ≤ q.1) : mm_R2 (mm_Sq q) (mm_Sq q) mX11_free [.ref 352, .int p0] h (gX11_free p0 h) (lf_i h) := by
  refine mm_body (L := [some (.ref 352), some (.int p0)]) rfl (by decide +kernel) (Nat.le_of_ble_eq_true rfl) rfl ?_
  unfold gX11_free
  refine me_aload_n (pc' := 1) (i := 0) dX11_free_0 rfl rfl rfl ?_
  refine me_iload_n (pc' := 2) (i := 1) dX11_free_1 rfl rfl rfl ?_
  refine me_iconst (pc' := 3) (v := 1) dX11_free_2 rfl kc_i1 ?_
  refine me_callV (As := [.int p0, .int 1]) (st := []) (F' := (mm_Sq q)) (G' := (mm_Sq q)) (F'' := (mm_Sq q)) (pc' := 6) dX11_free_3 rfl mfX11_ofBatch rfl lkX11_91 kd_352 rfl (mm_ltm kd_352 hN) ⟨Nat.le_of_ble_eq_true rfl, Nat.le_of_ble_eq_true rfl⟩ (Nat.le_of_ble_eq_true rfl) (fun z => z) (rX11_ofBatch (q := q) p0 1 h hN) (fun x1 e2 => Or.inl ⟨_, _, rfl, fun z => z, ?_⟩)
  show mm_E2 _ _ _ _ _ [.int x1] h _ _
  refine me_aload_n (pc' := 7) (i := 0) dX11_free_6 rfl rfl rfl ?_
  refine me_iload_n (pc' := 8) (i := 1) dX11_free_7 rfl rfl rfl ?_
  refine me_callV (As := [.int p0]) (st := [.int x1]) (F' := (mm_Sq q)) (G' := (mm_Sq q)) (F'' := (mm_Sq q)) (pc' := 11) dX11_free_8 rfl mfX11_held rfl lkX11_94 kd_352 rfl (mm_ltm kd_352 hN) ⟨Nat.le_of_ble_eq_true rfl, Nat.le_of_ble_eq_true rfl⟩ (Nat.le_of_ble_eq_true rfl) (fun z => z) (rX11_held (q := q) p0 h hN) (fun x3 e4 => Or.inl ⟨_, _, rfl, fun z => z, ?_⟩)
  show mm_E2 _ _ _ _ _ [.int x3, .int x1] h _ _
  refine me_isub (pc' := 12) dX11_free_11 rfl ?_
  exact me_iret dX11_free_12 rfl (fun z => z) rfl
def gX11_isPast (p0 : Int32) (h : mm_H) : Option Bool :=
(gX11_ofBatch p0 2 h).bind (fun (x1 : Int32) =>
if mm_ibd 0 4200 = true then
if x1 < (mh_I h 353 (Int32.toNatClampNeg (0))) then
some true
else
some false else none)
theorem rX11_isPast {q : Nat × Nat} (p0 : Int32) (h : mm_H) (hN : 358 ≤ q.1) : mm_R2 (mm_Sq q) (mm_Sq q) mX11_isPast [.ref 352, .int p0] h (gX11_isPast p0 h) (lf_z h) := by
  refine mm_body (L := [some (.ref 352), some (.int p0)]) rfl (by decide +kernel) (Nat.le_of_ble_eq_true rfl) rfl ?_
  unfold gX11_isPast
  refine me_aload_n (pc' := 1) (i := 0) dX11_isPast_0 rfl rfl rfl ?_
  refine me_iload_n (pc' := 2) (i := 1) dX11_isPast_1 rfl rfl rfl ?_
  refine me_iconst (pc' := 3) (v := 2) dX11_isPast_2 rfl kc_i2 ?_
  refine me_callV (As := [.int p0, .int 2]) (st := []) (F' := (mm_Sq q)) (G' := (mm_Sq q)) (F'' := (mm_Sq q)) (pc' := 6) dX11_isPast_3 rfl mfX11_ofBatch rfl lkX11_91 kd_352 rfl (mm_ltm kd_352 hN) ⟨Nat.le_of_ble_eq_true rfl, Nat.le_of_ble_eq_true rfl⟩ (Nat.le_of_ble_eq_true rfl) (fun z => z) (rX11_ofBatch (q := q) p0 2 h hN) (fun x1 e2 => Or.inl ⟨_, _, rfl, fun z => z, ?_⟩)
  show mm_E2 _ _ _ _ _ [.int x1] h _ _
  refine me_aload_n (pc' := 7) (i := 0) dX11_isPast_6 rfl rfl rfl ?_
  refine me_getR (pc' := 10) (q' := 353) dX11_isPast_7 rfl fkX11_13 kd_352 (mm_ltm kd_352 hN) rfl (mrX11_0 hN) ?_
  refine me_iconst (pc' := 11) (v := 0) dX11_isPast_10 rfl kc_i0 ?_
  refine mm_guard (fun c3 => ?_)
  refine me_iald (pc' := 12) dX11_isPast_11 rfl kd_353 (mm_ltm kd_353 hN) (mm_ibd_of c3) ?_
  refine me_icmp_ge (pc' := 15) (tgt := 19) dX11_isPast_12 (by decide) rfl (fun c4 => ?_) (fun c4 => ?_)
  · refine me_iconst (pc' := 20) (v := 0) dX11_isPast_19 rfl kc_i0 ?_
    exact me_zret (b := false) dX11_isPast_20 rfl (fun z => z) rfl
  · refine me_iconst (pc' := 16) (v := 1) dX11_isPast_15 rfl kc_i1 ?_
    refine me_goto (tgt := 20) dX11_isPast_16 (by decide) ?_
    exact me_zret (b := true) dX11_isPast_20 rfl (fun z => z) rfl
def gX11_isOf (p0 : Int32) (p1 : Int32) (h : mm_H) : Option Bool :=
(gX11_ofBatch p0 0 h).bind (fun (x1 : Int32) =>
if x1 = p1 then
some true
else
some false)
theorem rX11_isOf {q : Nat × Nat} (p0 : Int32) (p1 : Int32) (h : mm_H) (hN : 358 ≤ q.1) : mm_R2 (mm_Sq q) (mm_Sq q) mX11_isOf [.ref 352, .int p0, .int p1] h (gX11_isOf p0 p1 h) (lf_z h) := by
  refine mm_body (L := [some (.ref 352), some (.int p0), some (.int p1)]) rfl (by decide +kernel) (Nat.le_of_ble_eq_true rfl) rfl ?_
  unfold gX11_isOf
  refine me_aload_n (pc' := 1) (i := 0) dX11_isOf_0 rfl rfl rfl ?_
  refine me_iload_n (pc' := 2) (i := 1) dX11_isOf_1 rfl rfl rfl ?_
  refine me_iconst (pc' := 3) (v := 0) dX11_isOf_2 rfl kc_i0 ?_
  refine me_callV (As := [.int p0, .int 0]) (st := []) (F' := (mm_Sq q)) (G' := (mm_Sq q)) (F'' := (mm_Sq q)) (pc' := 6) dX11_isOf_3 rfl mfX11_ofBatch rfl lkX11_91 kd_352 rfl (mm_ltm kd_352 hN) ⟨Nat.le_of_ble_eq_true rfl, Nat.le_of_ble_eq_true rfl⟩ (Nat.le_of_ble_eq_true rfl) (fun z => z) (rX11_ofBatch (q := q) p0 0 h hN) (fun x1 e2 => Or.inl ⟨_, _, rfl, fun z => z, ?_⟩)
  show mm_E2 _ _ _ _ _ [.int x1] h _ _
  refine me_iload_n (pc' := 7) (i := 2) dX11_isOf_6 rfl rfl rfl ?_
  refine me_icmp_ne (pc' := 10) (tgt := 14) dX11_isOf_7 (by decide) rfl (fun c3 => ?_) (fun c3 => ?_)
  · refine me_iconst (pc' := 15) (v := 0) dX11_isOf_14 rfl kc_i0 ?_
    exact me_zret (b := false) dX11_isOf_15 rfl (fun z => z) rfl
  · refine me_iconst (pc' := 11) (v := 1) dX11_isOf_10 rfl kc_i1 ?_
    refine me_goto (tgt := 15) dX11_isOf_11 (by decide) ?_
    exact me_zret (b := true) dX11_isOf_15 rfl (fun z => z) rfl
def gX11_canTake (p0 : Int32) (p1 : Int32) (p2 : Int32) (h : mm_H) : Option Bool :=
(gX11_isOf p0 p1 h).bind (fun (x1 : Bool) =>
if x1 = true then
(gX11_ofBatch p0 2 h).bind (fun (x4 : Int32) =>
if x4 < p2 then
some false
else
(gX11_free p0 h).bind (fun (x7 : Int32) =>
if 0 < x7 then
some true
else
some false))
else
some false)
theorem rX11_canTake {q : Nat × Nat} (p0 : Int32) (p1 : Int32) (p2 : Int32) (h : mm_H) (hN : 358 ≤ q.1) : mm_R2 (mm_Sq q) (mm_Sq q) mX11_canTake [.ref 352, .int p0, .int p1, .int p2] h (gX11_canTake p0 p1 p2 h) (lf_z h) := by
  refine mm_body (L := [some (.ref 352), some (.int p0), some (.int p1), some (.int p2)]) rfl (by decide +kernel) (Nat.le_of_ble_eq_true rfl) rfl ?_
  unfold gX11_canTake
  refine me_aload_n (pc' := 1) (i := 0) dX11_canTake_0 rfl rfl rfl ?_
  refine me_iload_n (pc' := 2) (i := 1) dX11_canTake_1 rfl rfl rfl ?_
  refine me_iload_n (pc' := 3) (i := 2) dX11_canTake_2 rfl rfl rfl ?_
  refine me_callV (As := [.int p0, .int p1]) (st := []) (F' := (mm_Sq q)) (G' := (mm_Sq q)) (F'' := (mm_Sq q)) (pc' := 6) dX11_canTake_3 rfl mfX11_isOf rfl lkX11_98 kd_352 rfl (mm_ltm kd_352 hN) ⟨Nat.le_of_ble_eq_true rfl, Nat.le_of_ble_eq_true rfl⟩ (Nat.le_of_ble_eq_true rfl) (fun z => z) (rX11_isOf (q := q) p0 p1 h hN) (fun x1 e2 => Or.inl ⟨_, _, rfl, fun z => z, ?_⟩)
  show mm_E2 _ _ _ _ _ [.int (mx_bi x1)] h _ _
  refine me_ifB_eq (pc' := 9) (tgt := 31) dX11_canTake_6 (by decide) rfl (fun c3 => ?_) (fun c3 => ?_)
  · refine me_iconst (pc' := 32) (v := 0) dX11_canTake_31 rfl kc_i0 ?_
    exact me_zret (b := false) dX11_canTake_32 rfl (fun z => z) rfl
  · refine me_aload_n (pc' := 10) (i := 0) dX11_canTake_9 rfl rfl rfl ?_
    refine me_iload_n (pc' := 11) (i := 1) dX11_canTake_10 rfl rfl rfl ?_
    refine me_iconst (pc' := 12) (v := 2) dX11_canTake_11 rfl kc_i2 ?_
    refine me_callV (As := [.int p0, .int 2]) (st := []) (F' := (mm_Sq q)) (G' := (mm_Sq q)) (F'' := (mm_Sq q)) (pc' := 15) dX11_canTake_12 rfl mfX11_ofBatch rfl lkX11_91 kd_352 rfl (mm_ltm kd_352 hN) ⟨Nat.le_of_ble_eq_true rfl, Nat.le_of_ble_eq_true rfl⟩ (Nat.le_of_ble_eq_true rfl) (fun z => z) (rX11_ofBatch (q := q) p0 2 h hN) (fun x4 e5 => Or.inl ⟨_, _, rfl, fun z => z, ?_⟩)
    show mm_E2 _ _ _ _ _ [.int x4] h _ _
    refine me_iload_n (pc' := 16) (i := 3) dX11_canTake_15 rfl rfl rfl ?_
    refine me_icmp_lt (pc' := 19) (tgt := 31) dX11_canTake_16 (by decide) rfl (fun c6 => ?_) (fun c6 => ?_)
    · refine me_iconst (pc' := 32) (v := 0) dX11_canTake_31 rfl kc_i0 ?_
      exact me_zret (b := false) dX11_canTake_32 rfl (fun z => z) rfl
    · refine me_aload_n (pc' := 20) (i := 0) dX11_canTake_19 rfl rfl rfl ?_
      refine me_iload_n (pc' := 21) (i := 1) dX11_canTake_20 rfl rfl rfl ?_
      refine me_callV (As := [.int p0]) (st := []) (F' := (mm_Sq q)) (G' := (mm_Sq q)) (F'' := (mm_Sq q)) (pc' := 24) dX11_canTake_21 rfl mfX11_free rfl lkX11_102 kd_352 rfl (mm_ltm kd_352 hN) ⟨Nat.le_of_ble_eq_true rfl, Nat.le_of_ble_eq_true rfl⟩ (Nat.le_of_ble_eq_true rfl) (fun z => z) (rX11_free (q := q) p0 h hN) (fun x7 e8 => Or.inl ⟨_, _, rfl, fun z => z, ?_⟩)
      show mm_E2 _ _ _ _ _ [.int x7] h _ _
      refine me_if_le (pc' := 27) (tgt := 31) dX11_canTake_24 (by decide) rfl (fun c9 => ?_) (fun c9 => ?_)
      · refine me_iconst (pc' := 32) (v := 0) dX11_canTake_31 rfl kc_i0 ?_
        exact me_zret (b := false) dX11_canTake_32 rfl (fun z => z) rfl
      · refine me_iconst (pc' := 28) (v := 1) dX11_canTake_27 rfl kc_i1 ?_
        refine me_goto (tgt := 32) dX11_canTake_28 (by decide) ?_
        exact me_zret (b := true) dX11_canTake_32 rfl (fun z => z) rfl
def gX11_available_L5 (u1 : Int32) (u2 : Int32) (h : mm_H) : Nat → Int32 → Int32 → Option Int32
  | 0, _, _ => none
  | n + 1, w3, w4 =>
    if mm_ibd 2 4200 = true then
    if w4 < (mh_I h 353 (Int32.toNatClampNeg (2))) then
    (gX11_canTake w4 u1 u2 h).bind (fun (x7 : Bool) =>
    mm_jn (fun (y9 : Int32) (y10 : Int32) =>
    (some ((y10 + y9))).bind (fun (x12 : Int32) =>
    (some (w4 + 1)).bind (fun (x13 : Int32) =>
    gX11_available_L5 u1 u2 h n x12 x13))) (fun (j11 : Int32 → Int32 → Option Int32) =>
    if x7 = true then
    (gX11_free w4 h).bind (fun (x15 : Int32) =>
    j11 x15 w3)
    else
    j11 0 w3))
    else
    some w3 else none
def gX11_available (p0 : Int32) (p1 : Int32) (h : mm_H) : Option Int32 :=
gX11_available_L5 p0 p1 h mm_F 0 0
theorem rX11_available_L5 {q : Nat × Nat}  (u1 : Int32) (u2 : Int32)  (h : mm_H)  (hN : 358 ≤ q.1) : ∀ (n : Nat) (w3 : Int32) (w4 : Int32), mm_E2 (mm_Sq q) (mm_Sq q) mX11_available 5 [some (.ref 352), some (.int u1), some (.int u2), some (.int w3), some (.int w4)] [] h (gX11_available_L5 u1 u2 h n w3 w4) (lf_i h) := by
  intro n
  induction n with
  | zero =>
    intro w3 w4
    exact mm_none
  | succ n ih =>
    intro w3 w4
    rw [gX11_available_L5]
    refine me_iload (pc' := 7) (i := 4) dX11_available_5 rfl rfl ?_
    refine me_aload_n (pc' := 8) (i := 0) dX11_available_7 rfl rfl rfl ?_
    refine me_getR (pc' := 11) (q' := 353) dX11_available_8 rfl fkX11_13 kd_352 (mm_ltm kd_352 hN) rfl (mrX11_0 hN) ?_
    refine me_iconst (pc' := 12) (v := 2) dX11_available_11 rfl kc_i2 ?_
    refine mm_guard (fun c5 => ?_)
    refine me_iald (pc' := 13) dX11_available_12 rfl kd_353 (mm_ltm kd_353 hN) (mm_ibd_of c5) ?_
    refine me_icmp_ge (pc' := 16) (tgt := 46) dX11_available_13 (by decide) rfl (fun c6 => ?_) (fun c6 => ?_)
    · refine me_iload_n (pc' := 47) (i := 3) dX11_available_46 rfl rfl rfl ?_
      exact me_iret dX11_available_47 rfl (fun z => z) rfl
    · refine me_iload_n (pc' := 17) (i := 3) dX11_available_16 rfl rfl rfl ?_
      refine me_aload_n (pc' := 18) (i := 0) dX11_available_17 rfl rfl rfl ?_
      refine me_iload (pc' := 20) (i := 4) dX11_available_18 rfl rfl ?_
      refine me_iload_n (pc' := 21) (i := 1) dX11_available_20 rfl rfl rfl ?_
      refine me_iload_n (pc' := 22) (i := 2) dX11_available_21 rfl rfl rfl ?_
      refine me_callV (As := [.int w4, .int u1, .int u2]) (st := [.int w3]) (F' := (mm_Sq q)) (G' := (mm_Sq q)) (F'' := (mm_Sq q)) (pc' := 25) dX11_available_22 rfl mfX11_canTake rfl lkX11_105 kd_352 rfl (mm_ltm kd_352 hN) ⟨Nat.le_of_ble_eq_true rfl, Nat.le_of_ble_eq_true rfl⟩ (Nat.le_of_ble_eq_true rfl) (fun z => z) (rX11_canTake (q := q) w4 u1 u2 h hN) (fun x7 e8 => Or.inl ⟨_, _, rfl, fun z => z, ?_⟩)
      show mm_E2 _ _ _ _ _ [.int (mx_bi x7), .int w3] h _ _
      refine mm_jnI (fun (j119 : Int32 → Int32 → Option Int32) => ∀ (y9 : Int32) (y10 : Int32), mm_E2 (mm_Sq q) (mm_Sq q) mX11_available 38 [some (.ref 352), some (.int u1), some (.int u2), none, some (.int w4)] [.int y9, .int y10] h (j119 y9 y10) (lf_i h)) ?_ (fun j11 j11p => ?_)
      · intro y9 y10
        refine me_iadd (pc' := 39) dX11_available_38 rfl ?_
        refine mm_bnd ((y10 + y9)) (fun x12 => [some (.ref 352), some (.int u1), some (.int u2), none, some (.int w4)]) (fun x12 => [.int x12]) (fun _ => h) (fun x12 => ?_)
        refine me_istore_n (pc' := 40) (i := 3) (L' := [some (.ref 352), some (.int u1), some (.int u2), some (.int x12), some (.int w4)]) dX11_available_39 rfl rfl (Nat.le_of_ble_eq_true rfl) (Nat.le_of_ble_eq_true rfl) rfl ?_
        refine me_iinc (pc' := 43) (i := 4) (x := w4) (y := w4 + 1) (L' := [some (.ref 352), some (.int u1), some (.int u2), some (.int x12), some (.int (w4 + 1))]) dX11_available_40 rfl (Nat.le_of_ble_eq_true rfl) (Nat.le_of_ble_eq_true rfl) rfl (kc_plus kc_i1) rfl ?_
        refine mm_bnd (w4 + 1) (fun x13 => [some (.ref 352), some (.int u1), some (.int u2), some (.int x12), some (.int x13)]) (fun _ => []) (fun _ => h) (fun x13 => ?_)
        refine me_goto (tgt := 5) dX11_available_43 (by decide) ?_
        exact ih x12 x13
      refine me_ifB_eq (pc' := 28) (tgt := 37) dX11_available_25 (by decide) rfl (fun c14 => ?_) (fun c14 => ?_)
      · refine me_iconst (pc' := 38) (v := 0) dX11_available_37 rfl kc_i0 ?_
        exact mm_maskB [true, true, true, false, true] (j11p 0 w3)
      · refine me_aload_n (pc' := 29) (i := 0) dX11_available_28 rfl rfl rfl ?_
        refine me_iload (pc' := 31) (i := 4) dX11_available_29 rfl rfl ?_
        refine me_callV (As := [.int w4]) (st := [.int w3]) (F' := (mm_Sq q)) (G' := (mm_Sq q)) (F'' := (mm_Sq q)) (pc' := 34) dX11_available_31 rfl mfX11_free rfl lkX11_102 kd_352 rfl (mm_ltm kd_352 hN) ⟨Nat.le_of_ble_eq_true rfl, Nat.le_of_ble_eq_true rfl⟩ (Nat.le_of_ble_eq_true rfl) (fun z => z) (rX11_free (q := q) w4 h hN) (fun x15 e16 => Or.inl ⟨_, _, rfl, fun z => z, ?_⟩)
        show mm_E2 _ _ _ _ _ [.int x15, .int w3] h _ _
        refine me_goto (tgt := 38) dX11_available_34 (by decide) ?_
        exact mm_maskB [true, true, true, false, true] (j11p x15 w3)
theorem rX11_available {q : Nat × Nat} (p0 : Int32) (p1 : Int32) (h : mm_H) (hN : 358 ≤ q.1) : mm_R2 (mm_Sq q) (mm_Sq q) mX11_available [.ref 352, .int p0, .int p1] h (gX11_available p0 p1 h) (lf_i h) := by
  refine mm_body (L := [some (.ref 352), some (.int p0), some (.int p1), none, none]) rfl (by decide +kernel) (Nat.le_of_ble_eq_true rfl) rfl ?_
  unfold gX11_available
  refine me_iconst (pc' := 1) (v := 0) dX11_available_0 rfl kc_i0 ?_
  refine me_istore_n (pc' := 2) (i := 3) (L' := [some (.ref 352), some (.int p0), some (.int p1), some (.int 0), none]) dX11_available_1 rfl rfl (Nat.le_of_ble_eq_true rfl) (Nat.le_of_ble_eq_true rfl) rfl ?_
  refine me_iconst (pc' := 3) (v := 0) dX11_available_2 rfl kc_i0 ?_
  refine me_istore (pc' := 5) (i := 4) (L' := [some (.ref 352), some (.int p0), some (.int p1), some (.int 0), some (.int 0)]) dX11_available_3 rfl (Nat.le_of_ble_eq_true rfl) (Nat.le_of_ble_eq_true rfl) rfl ?_
  exact rX11_available_L5 (q := q) p0 p1 h hN mm_F 0 0
def gX11_firstBatch_L5 (u1 : Int32) (u2 : Int32) (h : mm_H) : Nat → Int32 → Int32 → Option Int32
  | 0, _, _ => none
  | n + 1, w3, w4 =>
    if mm_ibd 2 4200 = true then
    if w4 < (mh_I h 353 (Int32.toNatClampNeg (2))) then
    (gX11_canTake w4 u1 u2 h).bind (fun (x7 : Bool) =>
    mm_jn (fun (y9 : Int32) =>
    (some (w4 + 1)).bind (fun (x11 : Int32) =>
    gX11_firstBatch_L5 u1 u2 h n y9 x11)) (fun (j10 : Int32 → Option Int32) =>
    if x7 = true then
    mm_jn (fun (_ : Unit) =>
    j10 w4) (fun (j13 : Unit → Option Int32) =>
    if w3 = (-1) then
    j13 ()
    else
    (gX11_ofBatch w4 2 h).bind (fun (x15 : Int32) =>
    (gX11_ofBatch w3 2 h).bind (fun (x17 : Int32) =>
    if x15 < x17 then
    j13 ()
    else
    j10 w3)))
    else
    j10 w3))
    else
    some w3 else none
def gX11_firstBatch (p0 : Int32) (p1 : Int32) (h : mm_H) : Option Int32 :=
gX11_firstBatch_L5 p0 p1 h mm_F (-1) 0
theorem rX11_firstBatch_L5 {q : Nat × Nat}  (u1 : Int32) (u2 : Int32)  (h : mm_H)  (hN : 358 ≤ q.1) : ∀ (n : Nat) (w3 : Int32) (w4 : Int32), mm_E2 (mm_Sq q) (mm_Sq q) mX11_firstBatch 5 [some (.ref 352), some (.int u1), some (.int u2), some (.int w3), some (.int w4)] [] h (gX11_firstBatch_L5 u1 u2 h n w3 w4) (lf_i h) := by
  intro n
  induction n with
  | zero =>
    intro w3 w4
    exact mm_none
  | succ n ih =>
    intro w3 w4
    rw [gX11_firstBatch_L5]
    refine me_iload (pc' := 7) (i := 4) dX11_firstBatch_5 rfl rfl ?_
    refine me_aload_n (pc' := 8) (i := 0) dX11_firstBatch_7 rfl rfl rfl ?_
    refine me_getR (pc' := 11) (q' := 353) dX11_firstBatch_8 rfl fkX11_13 kd_352 (mm_ltm kd_352 hN) rfl (mrX11_0 hN) ?_
    refine me_iconst (pc' := 12) (v := 2) dX11_firstBatch_11 rfl kc_i2 ?_
    refine mm_guard (fun c5 => ?_)
    refine me_iald (pc' := 13) dX11_firstBatch_12 rfl kd_353 (mm_ltm kd_353 hN) (mm_ibd_of c5) ?_
    refine me_icmp_ge (pc' := 16) (tgt := 57) dX11_firstBatch_13 (by decide) rfl (fun c6 => ?_) (fun c6 => ?_)
    · refine me_iload_n (pc' := 58) (i := 3) dX11_firstBatch_57 rfl rfl rfl ?_
      exact me_iret dX11_firstBatch_58 rfl (fun z => z) rfl
    · refine me_aload_n (pc' := 17) (i := 0) dX11_firstBatch_16 rfl rfl rfl ?_
      refine me_iload (pc' := 19) (i := 4) dX11_firstBatch_17 rfl rfl ?_
      refine me_iload_n (pc' := 20) (i := 1) dX11_firstBatch_19 rfl rfl rfl ?_
      refine me_iload_n (pc' := 21) (i := 2) dX11_firstBatch_20 rfl rfl rfl ?_
      refine me_callV (As := [.int w4, .int u1, .int u2]) (st := []) (F' := (mm_Sq q)) (G' := (mm_Sq q)) (F'' := (mm_Sq q)) (pc' := 24) dX11_firstBatch_21 rfl mfX11_canTake rfl lkX11_105 kd_352 rfl (mm_ltm kd_352 hN) ⟨Nat.le_of_ble_eq_true rfl, Nat.le_of_ble_eq_true rfl⟩ (Nat.le_of_ble_eq_true rfl) (fun z => z) (rX11_canTake (q := q) w4 u1 u2 h hN) (fun x7 e8 => Or.inl ⟨_, _, rfl, fun z => z, ?_⟩)
      show mm_E2 _ _ _ _ _ [.int (mx_bi x7)] h _ _
      refine mm_jnI (fun (j109 : Int32 → Option Int32) => ∀ (y9 : Int32), mm_E2 (mm_Sq q) (mm_Sq q) mX11_firstBatch 51 [some (.ref 352), some (.int u1), some (.int u2), some (.int y9), some (.int w4)] [] h (j109 y9) (lf_i h)) ?_ (fun j10 j10p => ?_)
      · intro y9
        refine me_iinc (pc' := 54) (i := 4) (x := w4) (y := w4 + 1) (L' := [some (.ref 352), some (.int u1), some (.int u2), some (.int y9), some (.int (w4 + 1))]) dX11_firstBatch_51 rfl (Nat.le_of_ble_eq_true rfl) (Nat.le_of_ble_eq_true rfl) rfl (kc_plus kc_i1) rfl ?_
        refine mm_bnd (w4 + 1) (fun x11 => [some (.ref 352), some (.int u1), some (.int u2), some (.int y9), some (.int x11)]) (fun _ => []) (fun _ => h) (fun x11 => ?_)
        refine me_goto (tgt := 5) dX11_firstBatch_54 (by decide) ?_
        exact ih y9 x11
      refine me_ifB_eq (pc' := 27) (tgt := 51) dX11_firstBatch_24 (by decide) rfl (fun c12 => ?_) (fun c12 => ?_)
      · exact j10p w3
      · refine me_iload_n (pc' := 28) (i := 3) dX11_firstBatch_27 rfl rfl rfl ?_
        refine me_iconst (pc' := 29) (v := (-1)) dX11_firstBatch_28 rfl kc_im1 ?_
        refine mm_jnI (fun (j139 : Unit → Option Int32) => ∀ (_ : Unit), mm_E2 (mm_Sq q) (mm_Sq q) mX11_firstBatch 48 [some (.ref 352), some (.int u1), some (.int u2), none, some (.int w4)] [] h (j139 ()) (lf_i h)) ?_ (fun j13 j13p => ?_)
        · intro _
          refine me_iload (pc' := 50) (i := 4) dX11_firstBatch_48 rfl rfl ?_
          refine me_istore_n (pc' := 51) (i := 3) (L' := [some (.ref 352), some (.int u1), some (.int u2), some (.int w4), some (.int w4)]) dX11_firstBatch_50 rfl rfl (Nat.le_of_ble_eq_true rfl) (Nat.le_of_ble_eq_true rfl) rfl ?_
          exact j10p w4
        refine me_icmp_eq (pc' := 32) (tgt := 48) dX11_firstBatch_29 (by decide) rfl (fun c14 => ?_) (fun c14 => ?_)
        · exact mm_maskB [true, true, true, false, true] (j13p ())
        · refine me_aload_n (pc' := 33) (i := 0) dX11_firstBatch_32 rfl rfl rfl ?_
          refine me_iload (pc' := 35) (i := 4) dX11_firstBatch_33 rfl rfl ?_
          refine me_iconst (pc' := 36) (v := 2) dX11_firstBatch_35 rfl kc_i2 ?_
          refine me_callV (As := [.int w4, .int 2]) (st := []) (F' := (mm_Sq q)) (G' := (mm_Sq q)) (F'' := (mm_Sq q)) (pc' := 39) dX11_firstBatch_36 rfl mfX11_ofBatch rfl lkX11_91 kd_352 rfl (mm_ltm kd_352 hN) ⟨Nat.le_of_ble_eq_true rfl, Nat.le_of_ble_eq_true rfl⟩ (Nat.le_of_ble_eq_true rfl) (fun z => z) (rX11_ofBatch (q := q) w4 2 h hN) (fun x15 e16 => Or.inl ⟨_, _, rfl, fun z => z, ?_⟩)
          show mm_E2 _ _ _ _ _ [.int x15] h _ _
          refine me_aload_n (pc' := 40) (i := 0) dX11_firstBatch_39 rfl rfl rfl ?_
          refine me_iload_n (pc' := 41) (i := 3) dX11_firstBatch_40 rfl rfl rfl ?_
          refine me_iconst (pc' := 42) (v := 2) dX11_firstBatch_41 rfl kc_i2 ?_
          refine me_callV (As := [.int w3, .int 2]) (st := [.int x15]) (F' := (mm_Sq q)) (G' := (mm_Sq q)) (F'' := (mm_Sq q)) (pc' := 45) dX11_firstBatch_42 rfl mfX11_ofBatch rfl lkX11_91 kd_352 rfl (mm_ltm kd_352 hN) ⟨Nat.le_of_ble_eq_true rfl, Nat.le_of_ble_eq_true rfl⟩ (Nat.le_of_ble_eq_true rfl) (fun z => z) (rX11_ofBatch (q := q) w3 2 h hN) (fun x17 e18 => Or.inl ⟨_, _, rfl, fun z => z, ?_⟩)
          show mm_E2 _ _ _ _ _ [.int x17, .int x15] h _ _
          refine me_icmp_ge (pc' := 48) (tgt := 51) dX11_firstBatch_45 (by decide) rfl (fun c19 => ?_) (fun c19 => ?_)
          · exact j10p w3
          · exact mm_maskB [true, true, true, false, true] (j13p ())
theorem rX11_firstBatch {q : Nat × Nat} (p0 : Int32) (p1 : Int32) (h : mm_H) (hN : 358 ≤ q.1) : mm_R2 (mm_Sq q) (mm_Sq q) mX11_firstBatch [.ref 352, .int p0, .int p1] h (gX11_firstBatch p0 p1 h) (lf_i h) := by
  refine mm_body (L := [some (.ref 352), some (.int p0), some (.int p1), none, none]) rfl (by decide +kernel) (Nat.le_of_ble_eq_true rfl) rfl ?_
  unfold gX11_firstBatch
  refine me_iconst (pc' := 1) (v := (-1)) dX11_firstBatch_0 rfl kc_im1 ?_
  refine me_istore_n (pc' := 2) (i := 3) (L' := [some (.ref 352), some (.int p0), some (.int p1), some (.int (-1)), none]) dX11_firstBatch_1 rfl rfl (Nat.le_of_ble_eq_true rfl) (Nat.le_of_ble_eq_true rfl) rfl ?_
  refine me_iconst (pc' := 3) (v := 0) dX11_firstBatch_2 rfl kc_i0 ?_
  refine me_istore (pc' := 5) (i := 4) (L' := [some (.ref 352), some (.int p0), some (.int p1), some (.int (-1)), some (.int 0)]) dX11_firstBatch_3 rfl (Nat.le_of_ble_eq_true rfl) (Nat.le_of_ble_eq_true rfl) rfl ?_
  exact rX11_firstBatch_L5 (q := q) p0 p1 h hN mm_F (-1) 0
def gX11_takeOut_L14 (u3 : Int32) (u4 : Int32) : Nat → Int32 → Int32 → Int32 → mm_H → Option (Int32 × mm_H)
  | 0, _, _, _, _ => none
  | n + 1, w5, w6, w7, h8 =>
    if 0 < w6 then
    if w7 = (-1) then
    some (w5, h8)
    else
    (gX11_free w7 h8).bind (fun (x11 : Int32) =>
    mm_jn (fun (y13 : Int32) =>
    (gX11_ofBatch w7 1 h8).bind (fun (x15 : Int32) =>
    (gX11_setBatch w7 1 ((x15 - y13)) h8).bind (fun (h17 : mm_H) =>
    (gX11_note u3 9 y13 h17).bind (fun (h19 : mm_H) =>
    (gX11_ofBatch w7 3 h19).bind (fun (x21 : Int32) =>
    (some ((w5 + (y13 * x21)))).bind (fun (x23 : Int32) =>
    (some ((w6 - y13))).bind (fun (x24 : Int32) =>
    (gX11_firstBatch u3 u4 h19).bind (fun (x25 : Int32) =>
    gX11_takeOut_L14 u3 u4 n x23 x24 x25 h19)))))))) (fun (j14 : Int32 → Option (Int32 × mm_H)) =>
    if x11 < w6 then
    (gX11_free w7 h8).bind (fun (x28 : Int32) =>
    j14 x28)
    else
    j14 w6))
    else
    some (w5, h8)
def gX11_takeOut (p0 : Int32) (p1 : Int32) (p2 : Int32) (h : mm_H) : Option (Int32 × mm_H) :=
(gX11_firstBatch p0 p2 h).bind (fun (x1 : Int32) =>
gX11_takeOut_L14 p0 p2 mm_F 0 p1 x1 h)
theorem rX11_takeOut_L14 {q : Nat × Nat}  (u3 : Int32) (u4 : Int32)    (hN : 358 ≤ q.1) : ∀ (n : Nat) (w5 : Int32) (w6 : Int32) (w7 : Int32) (h8 : mm_H), mm_E2 (mm_Sq q) (mm_Sq q) mX11_takeOut 14 [some (.ref 352), some (.int u3), none, some (.int u4), some (.int w5), some (.int w6), some (.int w7), none] [] h8 (gX11_takeOut_L14 u3 u4  n w5 w6 w7 h8) lf_ie := by
  intro n
  induction n with
  | zero =>
    intro w5 w6 w7 h8
    exact mm_none
  | succ n ih =>
    intro w5 w6 w7 h8
    rw [gX11_takeOut_L14]
    refine me_iload (pc' := 16) (i := 5) dX11_takeOut_14 rfl rfl ?_
    refine me_if_le (pc' := 19) (tgt := 108) dX11_takeOut_16 (by decide) rfl (fun c9 => ?_) (fun c9 => ?_)
    · refine me_iload (pc' := 110) (i := 4) dX11_takeOut_108 rfl rfl ?_
      exact me_iret dX11_takeOut_110 rfl (fun z => z) rfl
    · refine me_iload (pc' := 21) (i := 6) dX11_takeOut_19 rfl rfl ?_
      refine me_iconst (pc' := 22) (v := (-1)) dX11_takeOut_21 rfl kc_im1 ?_
      refine me_icmp_eq (pc' := 25) (tgt := 108) dX11_takeOut_22 (by decide) rfl (fun c10 => ?_) (fun c10 => ?_)
      · refine me_iload (pc' := 110) (i := 4) dX11_takeOut_108 rfl rfl ?_
        exact me_iret dX11_takeOut_110 rfl (fun z => z) rfl
      · refine me_aload_n (pc' := 26) (i := 0) dX11_takeOut_25 rfl rfl rfl ?_
        refine me_iload (pc' := 28) (i := 6) dX11_takeOut_26 rfl rfl ?_
        refine me_callV (As := [.int w7]) (st := []) (F' := (mm_Sq q)) (G' := (mm_Sq q)) (F'' := (mm_Sq q)) (pc' := 31) dX11_takeOut_28 rfl mfX11_free rfl lkX11_102 kd_352 rfl (mm_ltm kd_352 hN) ⟨Nat.le_of_ble_eq_true rfl, Nat.le_of_ble_eq_true rfl⟩ (Nat.le_of_ble_eq_true rfl) (fun z => z) (rX11_free (q := q) w7 h8 hN) (fun x11 e12 => Or.inl ⟨_, _, rfl, fun z => z, ?_⟩)
        show mm_E2 _ _ _ _ _ [.int x11] h8 _ _
        refine me_iload (pc' := 33) (i := 5) dX11_takeOut_31 rfl rfl ?_
        refine mm_jnI (fun (j149 : Int32 → Option (Int32 × mm_H)) => ∀ (y13 : Int32), mm_E2 (mm_Sq q) (mm_Sq q) mX11_takeOut 47 [some (.ref 352), some (.int u3), none, some (.int u4), some (.int w5), some (.int w6), some (.int w7), none] [.int y13] h8 (j149 y13) lf_ie) ?_ (fun j14 j14p => ?_)
        · intro y13
          refine me_istore (pc' := 49) (i := 7) (L' := [some (.ref 352), some (.int u3), none, some (.int u4), some (.int w5), some (.int w6), some (.int w7), some (.int y13)]) dX11_takeOut_47 rfl (Nat.le_of_ble_eq_true rfl) (Nat.le_of_ble_eq_true rfl) rfl ?_
          refine me_aload_n (pc' := 50) (i := 0) dX11_takeOut_49 rfl rfl rfl ?_
          refine me_iload (pc' := 52) (i := 6) dX11_takeOut_50 rfl rfl ?_
          refine me_iconst (pc' := 53) (v := 1) dX11_takeOut_52 rfl kc_i1 ?_
          refine me_aload_n (pc' := 54) (i := 0) dX11_takeOut_53 rfl rfl rfl ?_
          refine me_iload (pc' := 56) (i := 6) dX11_takeOut_54 rfl rfl ?_
          refine me_iconst (pc' := 57) (v := 1) dX11_takeOut_56 rfl kc_i1 ?_
          refine me_callV (As := [.int w7, .int 1]) (st := [.int 1, .int w7, .ref 352]) (F' := (mm_Sq q)) (G' := (mm_Sq q)) (F'' := (mm_Sq q)) (pc' := 60) dX11_takeOut_57 rfl mfX11_ofBatch rfl lkX11_91 kd_352 rfl (mm_ltm kd_352 hN) ⟨Nat.le_of_ble_eq_true rfl, Nat.le_of_ble_eq_true rfl⟩ (Nat.le_of_ble_eq_true rfl) (fun z => z) (rX11_ofBatch (q := q) w7 1 h8 hN) (fun x15 e16 => Or.inl ⟨_, _, rfl, fun z => z, ?_⟩)
          show mm_E2 _ _ _ _ _ [.int x15, .int 1, .int w7, .ref 352] h8 _ _
          refine me_iload (pc' := 62) (i := 7) dX11_takeOut_60 rfl rfl ?_
          refine me_isub (pc' := 63) dX11_takeOut_62 rfl ?_
          refine me_callV (As := [.int w7, .int 1, .int (x15 - y13)]) (st := []) (F' := (mm_Sq q)) (G' := (mm_Sq q)) (F'' := (mm_Sq q)) (pc' := 66) dX11_takeOut_63 rfl mfX11_setBatch rfl lkX11_111 kd_352 rfl (mm_ltm kd_352 hN) ⟨Nat.le_of_ble_eq_true rfl, Nat.le_of_ble_eq_true rfl⟩ (Nat.le_of_ble_eq_true rfl) (fun z => z) (rX11_setBatch (q := q) w7 1 ((x15 - y13)) h8 hN) (fun h17 e18 => Or.inl ⟨_, _, rfl, fun z => z, ?_⟩)
          show mm_E2 _ _ _ _ _ [] h17 _ _
          refine me_aload_n (pc' := 67) (i := 0) dX11_takeOut_66 rfl rfl rfl ?_
          refine me_iload_n (pc' := 68) (i := 1) dX11_takeOut_67 rfl rfl rfl ?_
          refine me_bipush (pc' := 70) (v := 9) dX11_takeOut_68 rfl kc_b9 ?_
          refine me_iload (pc' := 72) (i := 7) dX11_takeOut_70 rfl rfl ?_
          refine me_callV (As := [.int u3, .int 9, .int y13]) (st := []) (F' := (mm_Sq q)) (G' := (mm_Sq q)) (F'' := (mm_Sq q)) (pc' := 75) dX11_takeOut_72 rfl mfX11_note rfl lkX11_115 kd_352 rfl (mm_ltm kd_352 hN) ⟨Nat.le_of_ble_eq_true rfl, Nat.le_of_ble_eq_true rfl⟩ (Nat.le_of_ble_eq_true rfl) (fun z => z) (rX11_note (q := q) u3 9 y13 h17 hN) (fun h19 e20 => Or.inl ⟨_, _, rfl, fun z => z, ?_⟩)
          show mm_E2 _ _ _ _ _ [] h19 _ _
          refine me_iload (pc' := 77) (i := 4) dX11_takeOut_75 rfl rfl ?_
          refine me_iload (pc' := 79) (i := 7) dX11_takeOut_77 rfl rfl ?_
          refine me_aload_n (pc' := 80) (i := 0) dX11_takeOut_79 rfl rfl rfl ?_
          refine me_iload (pc' := 82) (i := 6) dX11_takeOut_80 rfl rfl ?_
          refine me_iconst (pc' := 83) (v := 3) dX11_takeOut_82 rfl kc_i3 ?_
          refine me_callV (As := [.int w7, .int 3]) (st := [.int y13, .int w5]) (F' := (mm_Sq q)) (G' := (mm_Sq q)) (F'' := (mm_Sq q)) (pc' := 86) dX11_takeOut_83 rfl mfX11_ofBatch rfl lkX11_91 kd_352 rfl (mm_ltm kd_352 hN) ⟨Nat.le_of_ble_eq_true rfl, Nat.le_of_ble_eq_true rfl⟩ (Nat.le_of_ble_eq_true rfl) (fun z => z) (rX11_ofBatch (q := q) w7 3 h19 hN) (fun x21 e22 => Or.inl ⟨_, _, rfl, fun z => z, ?_⟩)
          show mm_E2 _ _ _ _ _ [.int x21, .int y13, .int w5] h19 _ _
          refine me_imul (pc' := 87) dX11_takeOut_86 rfl ?_
          refine me_iadd (pc' := 88) dX11_takeOut_87 rfl ?_
          refine mm_bnd ((w5 + (y13 * x21))) (fun x23 => [some (.ref 352), some (.int u3), none, some (.int u4), some (.int w5), some (.int w6), some (.int w7), some (.int y13)]) (fun x23 => [.int x23]) (fun _ => h19) (fun x23 => ?_)
          refine me_istore (pc' := 90) (i := 4) (L' := [some (.ref 352), some (.int u3), none, some (.int u4), some (.int x23), some (.int w6), some (.int w7), some (.int y13)]) dX11_takeOut_88 rfl (Nat.le_of_ble_eq_true rfl) (Nat.le_of_ble_eq_true rfl) rfl ?_
          refine me_iload (pc' := 92) (i := 5) dX11_takeOut_90 rfl rfl ?_
          refine me_iload (pc' := 94) (i := 7) dX11_takeOut_92 rfl rfl ?_
          refine me_isub (pc' := 95) dX11_takeOut_94 rfl ?_
          refine mm_bnd ((w6 - y13)) (fun x24 => [some (.ref 352), some (.int u3), none, some (.int u4), some (.int x23), some (.int w6), some (.int w7), some (.int y13)]) (fun x24 => [.int x24]) (fun _ => h19) (fun x24 => ?_)
          refine me_istore (pc' := 97) (i := 5) (L' := [some (.ref 352), some (.int u3), none, some (.int u4), some (.int x23), some (.int x24), some (.int w7), some (.int y13)]) dX11_takeOut_95 rfl (Nat.le_of_ble_eq_true rfl) (Nat.le_of_ble_eq_true rfl) rfl ?_
          refine me_aload_n (pc' := 98) (i := 0) dX11_takeOut_97 rfl rfl rfl ?_
          refine me_iload_n (pc' := 99) (i := 1) dX11_takeOut_98 rfl rfl rfl ?_
          refine me_iload_n (pc' := 100) (i := 3) dX11_takeOut_99 rfl rfl rfl ?_
          refine me_callV (As := [.int u3, .int u4]) (st := []) (F' := (mm_Sq q)) (G' := (mm_Sq q)) (F'' := (mm_Sq q)) (pc' := 103) dX11_takeOut_100 rfl mfX11_firstBatch rfl lkX11_108 kd_352 rfl (mm_ltm kd_352 hN) ⟨Nat.le_of_ble_eq_true rfl, Nat.le_of_ble_eq_true rfl⟩ (Nat.le_of_ble_eq_true rfl) (fun z => z) (rX11_firstBatch (q := q) u3 u4 h19 hN) (fun x25 e26 => Or.inl ⟨_, _, rfl, fun z => z, ?_⟩)
          show mm_E2 _ _ _ _ _ [.int x25] h19 _ _
          refine me_istore (pc' := 105) (i := 6) (L' := [some (.ref 352), some (.int u3), none, some (.int u4), some (.int x23), some (.int x24), some (.int x25), some (.int y13)]) dX11_takeOut_103 rfl (Nat.le_of_ble_eq_true rfl) (Nat.le_of_ble_eq_true rfl) rfl ?_
          refine me_goto (tgt := 14) dX11_takeOut_105 (by decide) ?_
          exact mm_maskB [true, true, false, true, true, true, true, false] (ih x23 x24 x25 h19)
        refine me_icmp_ge (pc' := 36) (tgt := 45) dX11_takeOut_33 (by decide) rfl (fun c27 => ?_) (fun c27 => ?_)
        · refine me_iload (pc' := 47) (i := 5) dX11_takeOut_45 rfl rfl ?_
          exact j14p w6
        · refine me_aload_n (pc' := 37) (i := 0) dX11_takeOut_36 rfl rfl rfl ?_
          refine me_iload (pc' := 39) (i := 6) dX11_takeOut_37 rfl rfl ?_
          refine me_callV (As := [.int w7]) (st := []) (F' := (mm_Sq q)) (G' := (mm_Sq q)) (F'' := (mm_Sq q)) (pc' := 42) dX11_takeOut_39 rfl mfX11_free rfl lkX11_102 kd_352 rfl (mm_ltm kd_352 hN) ⟨Nat.le_of_ble_eq_true rfl, Nat.le_of_ble_eq_true rfl⟩ (Nat.le_of_ble_eq_true rfl) (fun z => z) (rX11_free (q := q) w7 h8 hN) (fun x28 e29 => Or.inl ⟨_, _, rfl, fun z => z, ?_⟩)
          show mm_E2 _ _ _ _ _ [.int x28] h8 _ _
          refine me_goto (tgt := 47) dX11_takeOut_42 (by decide) ?_
          exact j14p x28
theorem rX11_takeOut {q : Nat × Nat} (p0 : Int32) (p1 : Int32) (p2 : Int32) (h : mm_H) (hN : 358 ≤ q.1) : mm_R2 (mm_Sq q) (mm_Sq q) mX11_takeOut [.ref 352, .int p0, .int p1, .int p2] h (gX11_takeOut p0 p1 p2 h) lf_ie := by
  refine mm_body (L := [some (.ref 352), some (.int p0), some (.int p1), some (.int p2), none, none, none, none]) rfl (by decide +kernel) (Nat.le_of_ble_eq_true rfl) rfl ?_
  unfold gX11_takeOut
  refine me_iconst (pc' := 1) (v := 0) dX11_takeOut_0 rfl kc_i0 ?_
  refine me_istore (pc' := 3) (i := 4) (L' := [some (.ref 352), some (.int p0), some (.int p1), some (.int p2), some (.int 0), none, none, none]) dX11_takeOut_1 rfl (Nat.le_of_ble_eq_true rfl) (Nat.le_of_ble_eq_true rfl) rfl ?_
  refine me_iload_n (pc' := 4) (i := 2) dX11_takeOut_3 rfl rfl rfl ?_
  refine me_istore (pc' := 6) (i := 5) (L' := [some (.ref 352), some (.int p0), some (.int p1), some (.int p2), some (.int 0), some (.int p1), none, none]) dX11_takeOut_4 rfl (Nat.le_of_ble_eq_true rfl) (Nat.le_of_ble_eq_true rfl) rfl ?_
  refine me_aload_n (pc' := 7) (i := 0) dX11_takeOut_6 rfl rfl rfl ?_
  refine me_iload_n (pc' := 8) (i := 1) dX11_takeOut_7 rfl rfl rfl ?_
  refine me_iload_n (pc' := 9) (i := 3) dX11_takeOut_8 rfl rfl rfl ?_
  refine me_callV (As := [.int p0, .int p2]) (st := []) (F' := (mm_Sq q)) (G' := (mm_Sq q)) (F'' := (mm_Sq q)) (pc' := 12) dX11_takeOut_9 rfl mfX11_firstBatch rfl lkX11_108 kd_352 rfl (mm_ltm kd_352 hN) ⟨Nat.le_of_ble_eq_true rfl, Nat.le_of_ble_eq_true rfl⟩ (Nat.le_of_ble_eq_true rfl) (fun z => z) (rX11_firstBatch (q := q) p0 p2 h hN) (fun x1 e2 => Or.inl ⟨_, _, rfl, fun z => z, ?_⟩)
  show mm_E2 _ _ _ _ _ [.int x1] h _ _
  refine me_istore (pc' := 14) (i := 6) (L' := [some (.ref 352), some (.int p0), some (.int p1), some (.int p2), some (.int 0), some (.int p1), some (.int x1), none]) dX11_takeOut_12 rfl (Nat.le_of_ble_eq_true rfl) (Nat.le_of_ble_eq_true rfl) rfl ?_
  exact mm_maskB [true, true, false, true, true, true, true, false] (rX11_takeOut_L14 (q := q) p0 p2 hN mm_F 0 p1 x1 h)
def gX11_allocate_L20 (u5 : Int32) (u6 : Int32) (u7 : Int32) (u8 : Int32) : Nat → Int32 → Int32 → mm_H → Option (Int32 × mm_H)
  | 0, _, _, _ => none
  | n + 1, w9, w10, h11 =>
    mm_jn (fun (_ : Unit) =>
    some ((u6 - w9), h11)) (fun (j12 : Unit → Option (Int32 × mm_H)) =>
    if 0 < w9 then
    if w10 = (-1) then
    j12 ()
    else
    (gX11_free w10 h11).bind (fun (x15 : Int32) =>
    mm_jn (fun (y17 : Int32) =>
    (gX11_ofReservation u5 ((4 + w10)) h11).bind (fun (x19 : Int32) =>
    (gX11_setReservation u5 ((4 + w10)) ((x19 + y17)) h11).bind (fun (h21 : mm_H) =>
    (some ((w9 - y17))).bind (fun (x23 : Int32) =>
    (gX11_firstBatch u8 u7 h21).bind (fun (x24 : Int32) =>
    gX11_allocate_L20 u5 u6 u7 u8 n x23 x24 h21))))) (fun (j18 : Int32 → Option (Int32 × mm_H)) =>
    if x15 < w9 then
    (gX11_free w10 h11).bind (fun (x27 : Int32) =>
    j18 x27)
    else
    j18 w9))
    else
    j12 ())
def gX11_allocate (p0 : Int32) (p1 : Int32) (p2 : Int32) (h : mm_H) : Option (Int32 × mm_H) :=
(gX11_ofReservation p0 0 h).bind (fun (x1 : Int32) =>
(gX11_firstBatch x1 p2 h).bind (fun (x3 : Int32) =>
gX11_allocate_L20 p0 p1 p2 x1 mm_F p1 x3 h))
theorem rX11_allocate_L20 {q : Nat × Nat}  (u5 : Int32) (u6 : Int32) (u7 : Int32) (u8 : Int32)    (hN : 358 ≤ q.1) : ∀ (n : Nat) (w9 : Int32) (w10 : Int32) (h11 : mm_H), mm_E2 (mm_Sq q) (mm_Sq q) mX11_allocate 20 [some (.ref 352), some (.int u5), some (.int u6), some (.int u7), some (.int u8), some (.int w9), some (.int w10), none] [] h11 (gX11_allocate_L20 u5 u6 u7 u8  n w9 w10 h11) lf_ie := by
  intro n
  induction n with
  | zero =>
    intro w9 w10 h11
    exact mm_none
  | succ n ih =>
    intro w9 w10 h11
    rw [gX11_allocate_L20]
    refine me_iload (pc' := 22) (i := 5) dX11_allocate_20 rfl rfl ?_
    refine mm_jnI (fun (j129 : Unit → Option (Int32 × mm_H)) => ∀ (_ : Unit), mm_E2 (mm_Sq q) (mm_Sq q) mX11_allocate 95 [none, none, some (.int u6), none, none, some (.int w9), none, none] [] h11 (j129 ()) lf_ie) ?_ (fun j12 j12p => ?_)
    · intro _
      refine me_iload_n (pc' := 96) (i := 2) dX11_allocate_95 rfl rfl rfl ?_
      refine me_iload (pc' := 98) (i := 5) dX11_allocate_96 rfl rfl ?_
      refine me_isub (pc' := 99) dX11_allocate_98 rfl ?_
      exact me_iret dX11_allocate_99 rfl (fun z => z) rfl
    refine me_if_le (pc' := 25) (tgt := 95) dX11_allocate_22 (by decide) rfl (fun c13 => ?_) (fun c13 => ?_)
    · exact mm_maskB [false, false, true, false, false, true, false, false] (j12p ())
    · refine me_iload (pc' := 27) (i := 6) dX11_allocate_25 rfl rfl ?_
      refine me_iconst (pc' := 28) (v := (-1)) dX11_allocate_27 rfl kc_im1 ?_
      refine me_icmp_eq (pc' := 31) (tgt := 95) dX11_allocate_28 (by decide) rfl (fun c14 => ?_) (fun c14 => ?_)
      · exact mm_maskB [false, false, true, false, false, true, false, false] (j12p ())
      · refine me_aload_n (pc' := 32) (i := 0) dX11_allocate_31 rfl rfl rfl ?_
        refine me_iload (pc' := 34) (i := 6) dX11_allocate_32 rfl rfl ?_
        refine me_callV (As := [.int w10]) (st := []) (F' := (mm_Sq q)) (G' := (mm_Sq q)) (F'' := (mm_Sq q)) (pc' := 37) dX11_allocate_34 rfl mfX11_free rfl lkX11_102 kd_352 rfl (mm_ltm kd_352 hN) ⟨Nat.le_of_ble_eq_true rfl, Nat.le_of_ble_eq_true rfl⟩ (Nat.le_of_ble_eq_true rfl) (fun z => z) (rX11_free (q := q) w10 h11 hN) (fun x15 e16 => Or.inl ⟨_, _, rfl, fun z => z, ?_⟩)
        show mm_E2 _ _ _ _ _ [.int x15] h11 _ _
        refine me_iload (pc' := 39) (i := 5) dX11_allocate_37 rfl rfl ?_
        refine mm_jnI (fun (j189 : Int32 → Option (Int32 × mm_H)) => ∀ (y17 : Int32), mm_E2 (mm_Sq q) (mm_Sq q) mX11_allocate 53 [some (.ref 352), some (.int u5), some (.int u6), some (.int u7), some (.int u8), some (.int w9), some (.int w10), none] [.int y17] h11 (j189 y17) lf_ie) ?_ (fun j18 j18p => ?_)
        · intro y17
          refine me_istore (pc' := 55) (i := 7) (L' := [some (.ref 352), some (.int u5), some (.int u6), some (.int u7), some (.int u8), some (.int w9), some (.int w10), some (.int y17)]) dX11_allocate_53 rfl (Nat.le_of_ble_eq_true rfl) (Nat.le_of_ble_eq_true rfl) rfl ?_
          refine me_aload_n (pc' := 56) (i := 0) dX11_allocate_55 rfl rfl rfl ?_
          refine me_iload_n (pc' := 57) (i := 1) dX11_allocate_56 rfl rfl rfl ?_
          refine me_iconst (pc' := 58) (v := 4) dX11_allocate_57 rfl kc_i4 ?_
          refine me_iload (pc' := 60) (i := 6) dX11_allocate_58 rfl rfl ?_
          refine me_iadd (pc' := 61) dX11_allocate_60 rfl ?_
          refine me_aload_n (pc' := 62) (i := 0) dX11_allocate_61 rfl rfl rfl ?_
          refine me_iload_n (pc' := 63) (i := 1) dX11_allocate_62 rfl rfl rfl ?_
          refine me_iconst (pc' := 64) (v := 4) dX11_allocate_63 rfl kc_i4 ?_
          refine me_iload (pc' := 66) (i := 6) dX11_allocate_64 rfl rfl ?_
          refine me_iadd (pc' := 67) dX11_allocate_66 rfl ?_
          refine me_callV (As := [.int u5, .int (4 + w10)]) (st := [.int (4 + w10), .int u5, .ref 352]) (F' := (mm_Sq q)) (G' := (mm_Sq q)) (F'' := (mm_Sq q)) (pc' := 70) dX11_allocate_67 rfl mfX11_ofReservation rfl lkX11_83 kd_352 rfl (mm_ltm kd_352 hN) ⟨Nat.le_of_ble_eq_true rfl, Nat.le_of_ble_eq_true rfl⟩ (Nat.le_of_ble_eq_true rfl) (fun z => z) (rX11_ofReservation (q := q) u5 ((4 + w10)) h11 hN) (fun x19 e20 => Or.inl ⟨_, _, rfl, fun z => z, ?_⟩)
          show mm_E2 _ _ _ _ _ [.int x19, .int (4 + w10), .int u5, .ref 352] h11 _ _
          refine me_iload (pc' := 72) (i := 7) dX11_allocate_70 rfl rfl ?_
          refine me_iadd (pc' := 73) dX11_allocate_72 rfl ?_
          refine me_callV (As := [.int u5, .int (4 + w10), .int (x19 + y17)]) (st := []) (F' := (mm_Sq q)) (G' := (mm_Sq q)) (F'' := (mm_Sq q)) (pc' := 76) dX11_allocate_73 rfl mfX11_setReservation rfl lkX11_118 kd_352 rfl (mm_ltm kd_352 hN) ⟨Nat.le_of_ble_eq_true rfl, Nat.le_of_ble_eq_true rfl⟩ (Nat.le_of_ble_eq_true rfl) (fun z => z) (rX11_setReservation (q := q) u5 ((4 + w10)) ((x19 + y17)) h11 hN) (fun h21 e22 => Or.inl ⟨_, _, rfl, fun z => z, ?_⟩)
          show mm_E2 _ _ _ _ _ [] h21 _ _
          refine me_iload (pc' := 78) (i := 5) dX11_allocate_76 rfl rfl ?_
          refine me_iload (pc' := 80) (i := 7) dX11_allocate_78 rfl rfl ?_
          refine me_isub (pc' := 81) dX11_allocate_80 rfl ?_
          refine mm_bnd ((w9 - y17)) (fun x23 => [some (.ref 352), some (.int u5), some (.int u6), some (.int u7), some (.int u8), some (.int w9), some (.int w10), some (.int y17)]) (fun x23 => [.int x23]) (fun _ => h21) (fun x23 => ?_)
          refine me_istore (pc' := 83) (i := 5) (L' := [some (.ref 352), some (.int u5), some (.int u6), some (.int u7), some (.int u8), some (.int x23), some (.int w10), some (.int y17)]) dX11_allocate_81 rfl (Nat.le_of_ble_eq_true rfl) (Nat.le_of_ble_eq_true rfl) rfl ?_
          refine me_aload_n (pc' := 84) (i := 0) dX11_allocate_83 rfl rfl rfl ?_
          refine me_iload (pc' := 86) (i := 4) dX11_allocate_84 rfl rfl ?_
          refine me_iload_n (pc' := 87) (i := 3) dX11_allocate_86 rfl rfl rfl ?_
          refine me_callV (As := [.int u8, .int u7]) (st := []) (F' := (mm_Sq q)) (G' := (mm_Sq q)) (F'' := (mm_Sq q)) (pc' := 90) dX11_allocate_87 rfl mfX11_firstBatch rfl lkX11_108 kd_352 rfl (mm_ltm kd_352 hN) ⟨Nat.le_of_ble_eq_true rfl, Nat.le_of_ble_eq_true rfl⟩ (Nat.le_of_ble_eq_true rfl) (fun z => z) (rX11_firstBatch (q := q) u8 u7 h21 hN) (fun x24 e25 => Or.inl ⟨_, _, rfl, fun z => z, ?_⟩)
          show mm_E2 _ _ _ _ _ [.int x24] h21 _ _
          refine me_istore (pc' := 92) (i := 6) (L' := [some (.ref 352), some (.int u5), some (.int u6), some (.int u7), some (.int u8), some (.int x23), some (.int x24), some (.int y17)]) dX11_allocate_90 rfl (Nat.le_of_ble_eq_true rfl) (Nat.le_of_ble_eq_true rfl) rfl ?_
          refine me_goto (tgt := 20) dX11_allocate_92 (by decide) ?_
          exact mm_maskB [true, true, true, true, true, true, true, false] (ih x23 x24 h21)
        refine me_icmp_ge (pc' := 42) (tgt := 51) dX11_allocate_39 (by decide) rfl (fun c26 => ?_) (fun c26 => ?_)
        · refine me_iload (pc' := 53) (i := 5) dX11_allocate_51 rfl rfl ?_
          exact j18p w9
        · refine me_aload_n (pc' := 43) (i := 0) dX11_allocate_42 rfl rfl rfl ?_
          refine me_iload (pc' := 45) (i := 6) dX11_allocate_43 rfl rfl ?_
          refine me_callV (As := [.int w10]) (st := []) (F' := (mm_Sq q)) (G' := (mm_Sq q)) (F'' := (mm_Sq q)) (pc' := 48) dX11_allocate_45 rfl mfX11_free rfl lkX11_102 kd_352 rfl (mm_ltm kd_352 hN) ⟨Nat.le_of_ble_eq_true rfl, Nat.le_of_ble_eq_true rfl⟩ (Nat.le_of_ble_eq_true rfl) (fun z => z) (rX11_free (q := q) w10 h11 hN) (fun x27 e28 => Or.inl ⟨_, _, rfl, fun z => z, ?_⟩)
          show mm_E2 _ _ _ _ _ [.int x27] h11 _ _
          refine me_goto (tgt := 53) dX11_allocate_48 (by decide) ?_
          exact j18p x27
theorem rX11_allocate {q : Nat × Nat} (p0 : Int32) (p1 : Int32) (p2 : Int32) (h : mm_H) (hN : 358 ≤ q.1) : mm_R2 (mm_Sq q) (mm_Sq q) mX11_allocate [.ref 352, .int p0, .int p1, .int p2] h (gX11_allocate p0 p1 p2 h) lf_ie := by
  refine mm_body (L := [some (.ref 352), some (.int p0), some (.int p1), some (.int p2), none, none, none, none]) rfl (by decide +kernel) (Nat.le_of_ble_eq_true rfl) rfl ?_
  unfold gX11_allocate
  refine me_aload_n (pc' := 1) (i := 0) dX11_allocate_0 rfl rfl rfl ?_
  refine me_iload_n (pc' := 2) (i := 1) dX11_allocate_1 rfl rfl rfl ?_
  refine me_iconst (pc' := 3) (v := 0) dX11_allocate_2 rfl kc_i0 ?_
  refine me_callV (As := [.int p0, .int 0]) (st := []) (F' := (mm_Sq q)) (G' := (mm_Sq q)) (F'' := (mm_Sq q)) (pc' := 6) dX11_allocate_3 rfl mfX11_ofReservation rfl lkX11_83 kd_352 rfl (mm_ltm kd_352 hN) ⟨Nat.le_of_ble_eq_true rfl, Nat.le_of_ble_eq_true rfl⟩ (Nat.le_of_ble_eq_true rfl) (fun z => z) (rX11_ofReservation (q := q) p0 0 h hN) (fun x1 e2 => Or.inl ⟨_, _, rfl, fun z => z, ?_⟩)
  show mm_E2 _ _ _ _ _ [.int x1] h _ _
  refine me_istore (pc' := 8) (i := 4) (L' := [some (.ref 352), some (.int p0), some (.int p1), some (.int p2), some (.int x1), none, none, none]) dX11_allocate_6 rfl (Nat.le_of_ble_eq_true rfl) (Nat.le_of_ble_eq_true rfl) rfl ?_
  refine me_iload_n (pc' := 9) (i := 2) dX11_allocate_8 rfl rfl rfl ?_
  refine me_istore (pc' := 11) (i := 5) (L' := [some (.ref 352), some (.int p0), some (.int p1), some (.int p2), some (.int x1), some (.int p1), none, none]) dX11_allocate_9 rfl (Nat.le_of_ble_eq_true rfl) (Nat.le_of_ble_eq_true rfl) rfl ?_
  refine me_aload_n (pc' := 12) (i := 0) dX11_allocate_11 rfl rfl rfl ?_
  refine me_iload (pc' := 14) (i := 4) dX11_allocate_12 rfl rfl ?_
  refine me_iload_n (pc' := 15) (i := 3) dX11_allocate_14 rfl rfl rfl ?_
  refine me_callV (As := [.int x1, .int p2]) (st := []) (F' := (mm_Sq q)) (G' := (mm_Sq q)) (F'' := (mm_Sq q)) (pc' := 18) dX11_allocate_15 rfl mfX11_firstBatch rfl lkX11_108 kd_352 rfl (mm_ltm kd_352 hN) ⟨Nat.le_of_ble_eq_true rfl, Nat.le_of_ble_eq_true rfl⟩ (Nat.le_of_ble_eq_true rfl) (fun z => z) (rX11_firstBatch (q := q) x1 p2 h hN) (fun x3 e4 => Or.inl ⟨_, _, rfl, fun z => z, ?_⟩)
  show mm_E2 _ _ _ _ _ [.int x3] h _ _
  refine me_istore (pc' := 20) (i := 6) (L' := [some (.ref 352), some (.int p0), some (.int p1), some (.int p2), some (.int x1), some (.int p1), some (.int x3), none]) dX11_allocate_18 rfl (Nat.le_of_ble_eq_true rfl) (Nat.le_of_ble_eq_true rfl) rfl ?_
  exact rX11_allocate_L20 (q := q) p0 p1 p2 x1 hN mm_F p1 x3 h
def gX11_allocated_L4 (u1 : Int32) (h : mm_H) : Nat → Int32 → Int32 → Option Int32
  | 0, _, _ => none
  | n + 1, w2, w3 =>
    if mm_ibd 2 4200 = true then
    if w3 < (mh_I h 353 (Int32.toNatClampNeg (2))) then
    (gX11_ofReservation u1 ((4 + w3)) h).bind (fun (x6 : Int32) =>
    (some ((w2 + x6))).bind (fun (x8 : Int32) =>
    (some (w3 + 1)).bind (fun (x9 : Int32) =>
    gX11_allocated_L4 u1 h n x8 x9)))
    else
    some w2 else none
def gX11_allocated (p0 : Int32) (h : mm_H) : Option Int32 :=
gX11_allocated_L4 p0 h mm_F 0 0
theorem rX11_allocated_L4 {q : Nat × Nat}  (u1 : Int32)  (h : mm_H)  (hN : 358 ≤ q.1) : ∀ (n : Nat) (w2 : Int32) (w3 : Int32), mm_E2 (mm_Sq q) (mm_Sq q) mX11_allocated 4 [some (.ref 352), some (.int u1), some (.int w2), some (.int w3)] [] h (gX11_allocated_L4 u1 h n w2 w3) (lf_i h) := by
  intro n
  induction n with
  | zero =>
    intro w2 w3
    exact mm_none
  | succ n ih =>
    intro w2 w3
    rw [gX11_allocated_L4]
    refine me_iload_n (pc' := 5) (i := 3) dX11_allocated_4 rfl rfl rfl ?_
    refine me_aload_n (pc' := 6) (i := 0) dX11_allocated_5 rfl rfl rfl ?_
    refine me_getR (pc' := 9) (q' := 353) dX11_allocated_6 rfl fkX11_13 kd_352 (mm_ltm kd_352 hN) rfl (mrX11_0 hN) ?_
    refine me_iconst (pc' := 10) (v := 2) dX11_allocated_9 rfl kc_i2 ?_
    refine mm_guard (fun c4 => ?_)
    refine me_iald (pc' := 11) dX11_allocated_10 rfl kd_353 (mm_ltm kd_353 hN) (mm_ibd_of c4) ?_
    refine me_icmp_ge (pc' := 14) (tgt := 31) dX11_allocated_11 (by decide) rfl (fun c5 => ?_) (fun c5 => ?_)
    · refine me_iload_n (pc' := 32) (i := 2) dX11_allocated_31 rfl rfl rfl ?_
      exact me_iret dX11_allocated_32 rfl (fun z => z) rfl
    · refine me_iload_n (pc' := 15) (i := 2) dX11_allocated_14 rfl rfl rfl ?_
      refine me_aload_n (pc' := 16) (i := 0) dX11_allocated_15 rfl rfl rfl ?_
      refine me_iload_n (pc' := 17) (i := 1) dX11_allocated_16 rfl rfl rfl ?_
      refine me_iconst (pc' := 18) (v := 4) dX11_allocated_17 rfl kc_i4 ?_
      refine me_iload_n (pc' := 19) (i := 3) dX11_allocated_18 rfl rfl rfl ?_
      refine me_iadd (pc' := 20) dX11_allocated_19 rfl ?_
      refine me_callV (As := [.int u1, .int (4 + w3)]) (st := [.int w2]) (F' := (mm_Sq q)) (G' := (mm_Sq q)) (F'' := (mm_Sq q)) (pc' := 23) dX11_allocated_20 rfl mfX11_ofReservation rfl lkX11_83 kd_352 rfl (mm_ltm kd_352 hN) ⟨Nat.le_of_ble_eq_true rfl, Nat.le_of_ble_eq_true rfl⟩ (Nat.le_of_ble_eq_true rfl) (fun z => z) (rX11_ofReservation (q := q) u1 ((4 + w3)) h hN) (fun x6 e7 => Or.inl ⟨_, _, rfl, fun z => z, ?_⟩)
      show mm_E2 _ _ _ _ _ [.int x6, .int w2] h _ _
      refine me_iadd (pc' := 24) dX11_allocated_23 rfl ?_
      refine mm_bnd ((w2 + x6)) (fun x8 => [some (.ref 352), some (.int u1), some (.int w2), some (.int w3)]) (fun x8 => [.int x8]) (fun _ => h) (fun x8 => ?_)
      refine me_istore_n (pc' := 25) (i := 2) (L' := [some (.ref 352), some (.int u1), some (.int x8), some (.int w3)]) dX11_allocated_24 rfl rfl (Nat.le_of_ble_eq_true rfl) (Nat.le_of_ble_eq_true rfl) rfl ?_
      refine me_iinc (pc' := 28) (i := 3) (x := w3) (y := w3 + 1) (L' := [some (.ref 352), some (.int u1), some (.int x8), some (.int (w3 + 1))]) dX11_allocated_25 rfl (Nat.le_of_ble_eq_true rfl) (Nat.le_of_ble_eq_true rfl) rfl (kc_plus kc_i1) rfl ?_
      refine mm_bnd (w3 + 1) (fun x9 => [some (.ref 352), some (.int u1), some (.int x8), some (.int x9)]) (fun _ => []) (fun _ => h) (fun x9 => ?_)
      refine me_goto (tgt := 4) dX11_allocated_28 (by decide) ?_
      exact ih x8 x9
theorem rX11_allocated {q : Nat × Nat} (p0 : Int32) (h : mm_H) (hN : 358 ≤ q.1) : mm_R2 (mm_Sq q) (mm_Sq q) mX11_allocated [.ref 352, .int p0] h (gX11_allocated p0 h) (lf_i h) := by
  refine mm_body (L := [some (.ref 352), some (.int p0), none, none]) rfl (by decide +kernel) (Nat.le_of_ble_eq_true rfl) rfl ?_
  unfold gX11_allocated
  refine me_iconst (pc' := 1) (v := 0) dX11_allocated_0 rfl kc_i0 ?_
  refine me_istore_n (pc' := 2) (i := 2) (L' := [some (.ref 352), some (.int p0), some (.int 0), none]) dX11_allocated_1 rfl rfl (Nat.le_of_ble_eq_true rfl) (Nat.le_of_ble_eq_true rfl) rfl ?_
  refine me_iconst (pc' := 3) (v := 0) dX11_allocated_2 rfl kc_i0 ?_
  refine me_istore_n (pc' := 4) (i := 3) (L' := [some (.ref 352), some (.int p0), some (.int 0), some (.int 0)]) dX11_allocated_3 rfl rfl (Nat.le_of_ble_eq_true rfl) (Nat.le_of_ble_eq_true rfl) rfl ?_
  exact rX11_allocated_L4 (q := q) p0 h hN mm_F 0 0
def gX11_lacking (p0 : Int32) (h : mm_H) : Option Int32 :=
(gX11_isOpenOne p0 h).bind (fun (x1 : Bool) =>
if x1 = true then
(gX11_ofReservation p0 1 h).bind (fun (x4 : Int32) =>
(gX11_allocated p0 h).bind (fun (x6 : Int32) =>
some ((x4 - x6))))
else
some 0)
theorem rX11_lacking {q : Nat × Nat} (p0 : Int32) (h : mm_H) (hN : 358 ≤ q.1) : mm_R2 (mm_Sq q) (mm_Sq q) mX11_lacking [.ref 352, .int p0] h (gX11_lacking p0 h) (lf_i h) := by
  refine mm_body (L := [some (.ref 352), some (.int p0)]) rfl (by decide +kernel) (Nat.le_of_ble_eq_true rfl) rfl ?_
  unfold gX11_lacking
  refine me_aload_n (pc' := 1) (i := 0) dX11_lacking_0 rfl rfl rfl ?_
  refine me_iload_n (pc' := 2) (i := 1) dX11_lacking_1 rfl rfl rfl ?_
  refine me_callV (As := [.int p0]) (st := []) (F' := (mm_Sq q)) (G' := (mm_Sq q)) (F'' := (mm_Sq q)) (pc' := 5) dX11_lacking_2 rfl mfX11_isOpenOne rfl lkX11_87 kd_352 rfl (mm_ltm kd_352 hN) ⟨Nat.le_of_ble_eq_true rfl, Nat.le_of_ble_eq_true rfl⟩ (Nat.le_of_ble_eq_true rfl) (fun z => z) (rX11_isOpenOne (q := q) p0 h hN) (fun x1 e2 => Or.inl ⟨_, _, rfl, fun z => z, ?_⟩)
  show mm_E2 _ _ _ _ _ [.int (mx_bi x1)] h _ _
  refine me_ifB_eq (pc' := 8) (tgt := 23) dX11_lacking_5 (by decide) rfl (fun c3 => ?_) (fun c3 => ?_)
  · refine me_iconst (pc' := 24) (v := 0) dX11_lacking_23 rfl kc_i0 ?_
    exact me_iret dX11_lacking_24 rfl (fun z => z) rfl
  · refine me_aload_n (pc' := 9) (i := 0) dX11_lacking_8 rfl rfl rfl ?_
    refine me_iload_n (pc' := 10) (i := 1) dX11_lacking_9 rfl rfl rfl ?_
    refine me_iconst (pc' := 11) (v := 1) dX11_lacking_10 rfl kc_i1 ?_
    refine me_callV (As := [.int p0, .int 1]) (st := []) (F' := (mm_Sq q)) (G' := (mm_Sq q)) (F'' := (mm_Sq q)) (pc' := 14) dX11_lacking_11 rfl mfX11_ofReservation rfl lkX11_83 kd_352 rfl (mm_ltm kd_352 hN) ⟨Nat.le_of_ble_eq_true rfl, Nat.le_of_ble_eq_true rfl⟩ (Nat.le_of_ble_eq_true rfl) (fun z => z) (rX11_ofReservation (q := q) p0 1 h hN) (fun x4 e5 => Or.inl ⟨_, _, rfl, fun z => z, ?_⟩)
    show mm_E2 _ _ _ _ _ [.int x4] h _ _
    refine me_aload_n (pc' := 15) (i := 0) dX11_lacking_14 rfl rfl rfl ?_
    refine me_iload_n (pc' := 16) (i := 1) dX11_lacking_15 rfl rfl rfl ?_
    refine me_callV (As := [.int p0]) (st := [.int x4]) (F' := (mm_Sq q)) (G' := (mm_Sq q)) (F'' := (mm_Sq q)) (pc' := 19) dX11_lacking_16 rfl mfX11_allocated rfl lkX11_121 kd_352 rfl (mm_ltm kd_352 hN) ⟨Nat.le_of_ble_eq_true rfl, Nat.le_of_ble_eq_true rfl⟩ (Nat.le_of_ble_eq_true rfl) (fun z => z) (rX11_allocated (q := q) p0 h hN) (fun x6 e7 => Or.inl ⟨_, _, rfl, fun z => z, ?_⟩)
    show mm_E2 _ _ _ _ _ [.int x6, .int x4] h _ _
    refine me_isub (pc' := 20) dX11_lacking_19 rfl ?_
    refine me_goto (tgt := 24) dX11_lacking_20 (by decide) ?_
    exact me_iret dX11_lacking_24 rfl (fun z => z) rfl
def gX11_writeOff_L61 (u24 : Int32) (u25 : Int32) (k : Int32 → mm_H → Option (Int32 × mm_H)) : Nat → Int32 → mm_H → Option (Int32 × mm_H)
  | 0, _, _ => none
  | n + 1, w26, h27 =>
    if mm_ibd 3 4200 = true then
    if w26 < (mh_I h27 353 (Int32.toNatClampNeg (3))) then
    (gX11_isOpenOne w26 h27).bind (fun (x32 : Bool) =>
    mm_jn (fun (h34 : mm_H) =>
    (some (w26 + 1)).bind (fun (x36 : Int32) =>
    gX11_writeOff_L61 u24 u25 k n x36 h34)) (fun (j35 : mm_H → Option (Int32 × mm_H)) =>
    if x32 = true then
    (gX11_setReservation w26 ((4 + u25)) 0 h27).bind (fun (h38 : mm_H) =>
    j35 h38)
    else
    j35 h27))
    else
    k u24 h27 else none
def gX11_writeOff_L4 : Nat → Int32 → Int32 → mm_H → Option (Int32 × mm_H)
  | 0, _, _, _ => none
  | n + 1, w1, w2, h3 =>
    if mm_ibd 2 4200 = true then
    if w2 < (mh_I h3 353 (Int32.toNatClampNeg (2))) then
    (gX11_isPast w2 h3).bind (fun (x6 : Bool) =>
    mm_jn (fun (y8 : Int32) (h9 : mm_H) =>
    (some (w2 + 1)).bind (fun (x11 : Int32) =>
    gX11_writeOff_L4 n y8 x11 h9)) (fun (j10 : Int32 → mm_H → Option (Int32 × mm_H)) =>
    if x6 = true then
    (gX11_ofBatch w2 1 h3).bind (fun (x13 : Int32) =>
    (some ((w1 + x13))).bind (fun (x15 : Int32) =>
    (gX11_ofBatch w2 0 h3).bind (fun (x16 : Int32) =>
    (gX11_ofBatch w2 1 h3).bind (fun (x18 : Int32) =>
    (gX11_note x16 10 x18 h3).bind (fun (h20 : mm_H) =>
    (gX11_setBatch w2 1 0 h20).bind (fun (h22 : mm_H) =>
    gX11_writeOff_L61 x15 w2 j10 mm_F 0 h22))))))
    else
    j10 w1 h3))
    else
    some (w1, h3) else none
def gX11_writeOff (h : mm_H) : Option (Int32 × mm_H) :=
gX11_writeOff_L4 mm_F 0 0 h
theorem rX11_writeOff_L61 {q : Nat × Nat}  (u24 : Int32) (u25 : Int32) (k : Int32 → mm_H → Option (Int32 × mm_H))   (hN : 358 ≤ q.1) (kp : ∀ (y28 : Int32) (h29 : mm_H), mm_E2 (mm_Sq q) (mm_Sq q) mX11_writeOff 94 [some (.ref 352), some (.int y28), some (.int u25), none] [] h29 (k y28 h29) lf_ie) : ∀ (n : Nat) (w26 : Int32) (h27 : mm_H), mm_E2 (mm_Sq q) (mm_Sq q) mX11_writeOff 61 [some (.ref 352), some (.int u24), some (.int u25), some (.int w26)] [] h27 (gX11_writeOff_L61 u24 u25 k  n w26 h27) lf_ie := by
  intro n
  induction n with
  | zero =>
    intro w26 h27
    exact mm_none
  | succ n ih =>
    intro w26 h27
    rw [gX11_writeOff_L61]
    refine me_iload_n (pc' := 62) (i := 3) dX11_writeOff_61 rfl rfl rfl ?_
    refine me_aload_n (pc' := 63) (i := 0) dX11_writeOff_62 rfl rfl rfl ?_
    refine me_getR (pc' := 66) (q' := 353) dX11_writeOff_63 rfl fkX11_13 kd_352 (mm_ltm kd_352 hN) rfl (mrX11_0 hN) ?_
    refine me_iconst (pc' := 67) (v := 3) dX11_writeOff_66 rfl kc_i3 ?_
    refine mm_guard (fun c30 => ?_)
    refine me_iald (pc' := 68) dX11_writeOff_67 rfl kd_353 (mm_ltm kd_353 hN) (mm_ibd_of c30) ?_
    refine me_icmp_ge (pc' := 71) (tgt := 94) dX11_writeOff_68 (by decide) rfl (fun c31 => ?_) (fun c31 => ?_)
    · exact mm_maskB [true, true, true, false] (kp u24 h27)
    · refine me_aload_n (pc' := 72) (i := 0) dX11_writeOff_71 rfl rfl rfl ?_
      refine me_iload_n (pc' := 73) (i := 3) dX11_writeOff_72 rfl rfl rfl ?_
      refine me_callV (As := [.int w26]) (st := []) (F' := (mm_Sq q)) (G' := (mm_Sq q)) (F'' := (mm_Sq q)) (pc' := 76) dX11_writeOff_73 rfl mfX11_isOpenOne rfl lkX11_87 kd_352 rfl (mm_ltm kd_352 hN) ⟨Nat.le_of_ble_eq_true rfl, Nat.le_of_ble_eq_true rfl⟩ (Nat.le_of_ble_eq_true rfl) (fun z => z) (rX11_isOpenOne (q := q) w26 h27 hN) (fun x32 e33 => Or.inl ⟨_, _, rfl, fun z => z, ?_⟩)
      show mm_E2 _ _ _ _ _ [.int (mx_bi x32)] h27 _ _
      refine mm_jnI (fun (j359 : mm_H → Option (Int32 × mm_H)) => ∀ (h34 : mm_H), mm_E2 (mm_Sq q) (mm_Sq q) mX11_writeOff 88 [some (.ref 352), some (.int u24), some (.int u25), some (.int w26)] [] h34 (j359 h34) lf_ie) ?_ (fun j35 j35p => ?_)
      · intro h34
        refine me_iinc (pc' := 91) (i := 3) (x := w26) (y := w26 + 1) (L' := [some (.ref 352), some (.int u24), some (.int u25), some (.int (w26 + 1))]) dX11_writeOff_88 rfl (Nat.le_of_ble_eq_true rfl) (Nat.le_of_ble_eq_true rfl) rfl (kc_plus kc_i1) rfl ?_
        refine mm_bnd (w26 + 1) (fun x36 => [some (.ref 352), some (.int u24), some (.int u25), some (.int x36)]) (fun _ => []) (fun _ => h34) (fun x36 => ?_)
        refine me_goto (tgt := 61) dX11_writeOff_91 (by decide) ?_
        exact ih x36 h34
      refine me_ifB_eq (pc' := 79) (tgt := 88) dX11_writeOff_76 (by decide) rfl (fun c37 => ?_) (fun c37 => ?_)
      · exact j35p h27
      · refine me_aload_n (pc' := 80) (i := 0) dX11_writeOff_79 rfl rfl rfl ?_
        refine me_iload_n (pc' := 81) (i := 3) dX11_writeOff_80 rfl rfl rfl ?_
        refine me_iconst (pc' := 82) (v := 4) dX11_writeOff_81 rfl kc_i4 ?_
        refine me_iload_n (pc' := 83) (i := 2) dX11_writeOff_82 rfl rfl rfl ?_
        refine me_iadd (pc' := 84) dX11_writeOff_83 rfl ?_
        refine me_iconst (pc' := 85) (v := 0) dX11_writeOff_84 rfl kc_i0 ?_
        refine me_callV (As := [.int w26, .int (4 + u25), .int 0]) (st := []) (F' := (mm_Sq q)) (G' := (mm_Sq q)) (F'' := (mm_Sq q)) (pc' := 88) dX11_writeOff_85 rfl mfX11_setReservation rfl lkX11_118 kd_352 rfl (mm_ltm kd_352 hN) ⟨Nat.le_of_ble_eq_true rfl, Nat.le_of_ble_eq_true rfl⟩ (Nat.le_of_ble_eq_true rfl) (fun z => z) (rX11_setReservation (q := q) w26 ((4 + u25)) 0 h27 hN) (fun h38 e39 => Or.inl ⟨_, _, rfl, fun z => z, ?_⟩)
        show mm_E2 _ _ _ _ _ [] h38 _ _
        exact j35p h38
theorem rX11_writeOff_L4 {q : Nat × Nat}      (hN : 358 ≤ q.1) : ∀ (n : Nat) (w1 : Int32) (w2 : Int32) (h3 : mm_H), mm_E2 (mm_Sq q) (mm_Sq q) mX11_writeOff 4 [some (.ref 352), some (.int w1), some (.int w2), none] [] h3 (gX11_writeOff_L4  n w1 w2 h3) lf_ie := by
  intro n
  induction n with
  | zero =>
    intro w1 w2 h3
    exact mm_none
  | succ n ih =>
    intro w1 w2 h3
    rw [gX11_writeOff_L4]
    refine me_iload_n (pc' := 5) (i := 2) dX11_writeOff_4 rfl rfl rfl ?_
    refine me_aload_n (pc' := 6) (i := 0) dX11_writeOff_5 rfl rfl rfl ?_
    refine me_getR (pc' := 9) (q' := 353) dX11_writeOff_6 rfl fkX11_13 kd_352 (mm_ltm kd_352 hN) rfl (mrX11_0 hN) ?_
    refine me_iconst (pc' := 10) (v := 2) dX11_writeOff_9 rfl kc_i2 ?_
    refine mm_guard (fun c4 => ?_)
    refine me_iald (pc' := 11) dX11_writeOff_10 rfl kd_353 (mm_ltm kd_353 hN) (mm_ibd_of c4) ?_
    refine me_icmp_ge (pc' := 14) (tgt := 100) dX11_writeOff_11 (by decide) rfl (fun c5 => ?_) (fun c5 => ?_)
    · refine me_iload_n (pc' := 101) (i := 1) dX11_writeOff_100 rfl rfl rfl ?_
      exact me_iret dX11_writeOff_101 rfl (fun z => z) rfl
    · refine me_aload_n (pc' := 15) (i := 0) dX11_writeOff_14 rfl rfl rfl ?_
      refine me_iload_n (pc' := 16) (i := 2) dX11_writeOff_15 rfl rfl rfl ?_
      refine me_callV (As := [.int w2]) (st := []) (F' := (mm_Sq q)) (G' := (mm_Sq q)) (F'' := (mm_Sq q)) (pc' := 19) dX11_writeOff_16 rfl mfX11_isPast rfl lkX11_124 kd_352 rfl (mm_ltm kd_352 hN) ⟨Nat.le_of_ble_eq_true rfl, Nat.le_of_ble_eq_true rfl⟩ (Nat.le_of_ble_eq_true rfl) (fun z => z) (rX11_isPast (q := q) w2 h3 hN) (fun x6 e7 => Or.inl ⟨_, _, rfl, fun z => z, ?_⟩)
      show mm_E2 _ _ _ _ _ [.int (mx_bi x6)] h3 _ _
      refine mm_jnI (fun (j109 : Int32 → mm_H → Option (Int32 × mm_H)) => ∀ (y8 : Int32) (h9 : mm_H), mm_E2 (mm_Sq q) (mm_Sq q) mX11_writeOff 94 [some (.ref 352), some (.int y8), some (.int w2), none] [] h9 (j109 y8 h9) lf_ie) ?_ (fun j10 j10p => ?_)
      · intro y8 h9
        refine me_iinc (pc' := 97) (i := 2) (x := w2) (y := w2 + 1) (L' := [some (.ref 352), some (.int y8), some (.int (w2 + 1)), none]) dX11_writeOff_94 rfl (Nat.le_of_ble_eq_true rfl) (Nat.le_of_ble_eq_true rfl) rfl (kc_plus kc_i1) rfl ?_
        refine mm_bnd (w2 + 1) (fun x11 => [some (.ref 352), some (.int y8), some (.int x11), none]) (fun _ => []) (fun _ => h9) (fun x11 => ?_)
        refine me_goto (tgt := 4) dX11_writeOff_97 (by decide) ?_
        exact ih y8 x11 h9
      refine me_ifB_ne (pc' := 22) (tgt := 25) dX11_writeOff_19 (by decide) rfl (fun c12 => ?_) (fun c12 => ?_)
      · refine me_iload_n (pc' := 26) (i := 1) dX11_writeOff_25 rfl rfl rfl ?_
        refine me_aload_n (pc' := 27) (i := 0) dX11_writeOff_26 rfl rfl rfl ?_
        refine me_iload_n (pc' := 28) (i := 2) dX11_writeOff_27 rfl rfl rfl ?_
        refine me_iconst (pc' := 29) (v := 1) dX11_writeOff_28 rfl kc_i1 ?_
        refine me_callV (As := [.int w2, .int 1]) (st := [.int w1]) (F' := (mm_Sq q)) (G' := (mm_Sq q)) (F'' := (mm_Sq q)) (pc' := 32) dX11_writeOff_29 rfl mfX11_ofBatch rfl lkX11_91 kd_352 rfl (mm_ltm kd_352 hN) ⟨Nat.le_of_ble_eq_true rfl, Nat.le_of_ble_eq_true rfl⟩ (Nat.le_of_ble_eq_true rfl) (fun z => z) (rX11_ofBatch (q := q) w2 1 h3 hN) (fun x13 e14 => Or.inl ⟨_, _, rfl, fun z => z, ?_⟩)
        show mm_E2 _ _ _ _ _ [.int x13, .int w1] h3 _ _
        refine me_iadd (pc' := 33) dX11_writeOff_32 rfl ?_
        refine mm_bnd ((w1 + x13)) (fun x15 => [some (.ref 352), some (.int w1), some (.int w2), none]) (fun x15 => [.int x15]) (fun _ => h3) (fun x15 => ?_)
        refine me_istore_n (pc' := 34) (i := 1) (L' := [some (.ref 352), some (.int x15), some (.int w2), none]) dX11_writeOff_33 rfl rfl (Nat.le_of_ble_eq_true rfl) (Nat.le_of_ble_eq_true rfl) rfl ?_
        refine me_aload_n (pc' := 35) (i := 0) dX11_writeOff_34 rfl rfl rfl ?_
        refine me_aload_n (pc' := 36) (i := 0) dX11_writeOff_35 rfl rfl rfl ?_
        refine me_iload_n (pc' := 37) (i := 2) dX11_writeOff_36 rfl rfl rfl ?_
        refine me_iconst (pc' := 38) (v := 0) dX11_writeOff_37 rfl kc_i0 ?_
        refine me_callV (As := [.int w2, .int 0]) (st := [.ref 352]) (F' := (mm_Sq q)) (G' := (mm_Sq q)) (F'' := (mm_Sq q)) (pc' := 41) dX11_writeOff_38 rfl mfX11_ofBatch rfl lkX11_91 kd_352 rfl (mm_ltm kd_352 hN) ⟨Nat.le_of_ble_eq_true rfl, Nat.le_of_ble_eq_true rfl⟩ (Nat.le_of_ble_eq_true rfl) (fun z => z) (rX11_ofBatch (q := q) w2 0 h3 hN) (fun x16 e17 => Or.inl ⟨_, _, rfl, fun z => z, ?_⟩)
        show mm_E2 _ _ _ _ _ [.int x16, .ref 352] h3 _ _
        refine me_bipush (pc' := 43) (v := 10) dX11_writeOff_41 rfl kc_b10 ?_
        refine me_aload_n (pc' := 44) (i := 0) dX11_writeOff_43 rfl rfl rfl ?_
        refine me_iload_n (pc' := 45) (i := 2) dX11_writeOff_44 rfl rfl rfl ?_
        refine me_iconst (pc' := 46) (v := 1) dX11_writeOff_45 rfl kc_i1 ?_
        refine me_callV (As := [.int w2, .int 1]) (st := [.int 10, .int x16, .ref 352]) (F' := (mm_Sq q)) (G' := (mm_Sq q)) (F'' := (mm_Sq q)) (pc' := 49) dX11_writeOff_46 rfl mfX11_ofBatch rfl lkX11_91 kd_352 rfl (mm_ltm kd_352 hN) ⟨Nat.le_of_ble_eq_true rfl, Nat.le_of_ble_eq_true rfl⟩ (Nat.le_of_ble_eq_true rfl) (fun z => z) (rX11_ofBatch (q := q) w2 1 h3 hN) (fun x18 e19 => Or.inl ⟨_, _, rfl, fun z => z, ?_⟩)
        show mm_E2 _ _ _ _ _ [.int x18, .int 10, .int x16, .ref 352] h3 _ _
        refine me_callV (As := [.int x16, .int 10, .int x18]) (st := []) (F' := (mm_Sq q)) (G' := (mm_Sq q)) (F'' := (mm_Sq q)) (pc' := 52) dX11_writeOff_49 rfl mfX11_note rfl lkX11_115 kd_352 rfl (mm_ltm kd_352 hN) ⟨Nat.le_of_ble_eq_true rfl, Nat.le_of_ble_eq_true rfl⟩ (Nat.le_of_ble_eq_true rfl) (fun z => z) (rX11_note (q := q) x16 10 x18 h3 hN) (fun h20 e21 => Or.inl ⟨_, _, rfl, fun z => z, ?_⟩)
        show mm_E2 _ _ _ _ _ [] h20 _ _
        refine me_aload_n (pc' := 53) (i := 0) dX11_writeOff_52 rfl rfl rfl ?_
        refine me_iload_n (pc' := 54) (i := 2) dX11_writeOff_53 rfl rfl rfl ?_
        refine me_iconst (pc' := 55) (v := 1) dX11_writeOff_54 rfl kc_i1 ?_
        refine me_iconst (pc' := 56) (v := 0) dX11_writeOff_55 rfl kc_i0 ?_
        refine me_callV (As := [.int w2, .int 1, .int 0]) (st := []) (F' := (mm_Sq q)) (G' := (mm_Sq q)) (F'' := (mm_Sq q)) (pc' := 59) dX11_writeOff_56 rfl mfX11_setBatch rfl lkX11_111 kd_352 rfl (mm_ltm kd_352 hN) ⟨Nat.le_of_ble_eq_true rfl, Nat.le_of_ble_eq_true rfl⟩ (Nat.le_of_ble_eq_true rfl) (fun z => z) (rX11_setBatch (q := q) w2 1 0 h20 hN) (fun h22 e23 => Or.inl ⟨_, _, rfl, fun z => z, ?_⟩)
        show mm_E2 _ _ _ _ _ [] h22 _ _
        refine me_iconst (pc' := 60) (v := 0) dX11_writeOff_59 rfl kc_i0 ?_
        refine me_istore_n (pc' := 61) (i := 3) (L' := [some (.ref 352), some (.int x15), some (.int w2), some (.int 0)]) dX11_writeOff_60 rfl rfl (Nat.le_of_ble_eq_true rfl) (Nat.le_of_ble_eq_true rfl) rfl ?_
        exact rX11_writeOff_L61 (q := q) x15 w2 j10 hN j10p mm_F 0 h22
      · refine me_goto (tgt := 94) dX11_writeOff_22 (by decide) ?_
        exact j10p w1 h3
theorem rX11_writeOff {q : Nat × Nat} (h : mm_H) (hN : 358 ≤ q.1) : mm_R2 (mm_Sq q) (mm_Sq q) mX11_writeOff [.ref 352] h (gX11_writeOff h) lf_ie := by
  refine mm_body (L := [some (.ref 352), none, none, none]) rfl (by decide +kernel) (Nat.le_of_ble_eq_true rfl) rfl ?_
  unfold gX11_writeOff
  refine me_iconst (pc' := 1) (v := 0) dX11_writeOff_0 rfl kc_i0 ?_
  refine me_istore_n (pc' := 2) (i := 1) (L' := [some (.ref 352), some (.int 0), none, none]) dX11_writeOff_1 rfl rfl (Nat.le_of_ble_eq_true rfl) (Nat.le_of_ble_eq_true rfl) rfl ?_
  refine me_iconst (pc' := 3) (v := 0) dX11_writeOff_2 rfl kc_i0 ?_
  refine me_istore_n (pc' := 4) (i := 2) (L' := [some (.ref 352), some (.int 0), some (.int 0), none]) dX11_writeOff_3 rfl rfl (Nat.le_of_ble_eq_true rfl) (Nat.le_of_ble_eq_true rfl) rfl ?_
  exact rX11_writeOff_L4 (q := q) hN mm_F 0 0 h
def gX11_stock_L4 (u1 : Int32) (h : mm_H) : Nat → Int32 → Int32 → Option Int32
  | 0, _, _ => none
  | n + 1, w2, w3 =>
    if mm_ibd 2 4200 = true then
    if w3 < (mh_I h 353 (Int32.toNatClampNeg (2))) then
    (gX11_isOf w3 u1 h).bind (fun (x6 : Bool) =>
    mm_jn (fun (y8 : Int32) (y9 : Int32) =>
    (some ((y9 + y8))).bind (fun (x11 : Int32) =>
    (some (w3 + 1)).bind (fun (x12 : Int32) =>
    gX11_stock_L4 u1 h n x11 x12))) (fun (j10 : Int32 → Int32 → Option Int32) =>
    if x6 = true then
    (gX11_ofBatch w3 1 h).bind (fun (x14 : Int32) =>
    j10 x14 w2)
    else
    j10 0 w2))
    else
    some w2 else none
def gX11_stock (p0 : Int32) (h : mm_H) : Option Int32 :=
gX11_stock_L4 p0 h mm_F 0 0
theorem rX11_stock_L4 {q : Nat × Nat}  (u1 : Int32)  (h : mm_H)  (hN : 358 ≤ q.1) : ∀ (n : Nat) (w2 : Int32) (w3 : Int32), mm_E2 (mm_Sq q) (mm_Sq q) mX11_stock 4 [some (.ref 352), some (.int u1), some (.int w2), some (.int w3)] [] h (gX11_stock_L4 u1 h n w2 w3) (lf_i h) := by
  intro n
  induction n with
  | zero =>
    intro w2 w3
    exact mm_none
  | succ n ih =>
    intro w2 w3
    rw [gX11_stock_L4]
    refine me_iload_n (pc' := 5) (i := 3) dX11_stock_4 rfl rfl rfl ?_
    refine me_aload_n (pc' := 6) (i := 0) dX11_stock_5 rfl rfl rfl ?_
    refine me_getR (pc' := 9) (q' := 353) dX11_stock_6 rfl fkX11_13 kd_352 (mm_ltm kd_352 hN) rfl (mrX11_0 hN) ?_
    refine me_iconst (pc' := 10) (v := 2) dX11_stock_9 rfl kc_i2 ?_
    refine mm_guard (fun c4 => ?_)
    refine me_iald (pc' := 11) dX11_stock_10 rfl kd_353 (mm_ltm kd_353 hN) (mm_ibd_of c4) ?_
    refine me_icmp_ge (pc' := 14) (tgt := 42) dX11_stock_11 (by decide) rfl (fun c5 => ?_) (fun c5 => ?_)
    · refine me_iload_n (pc' := 43) (i := 2) dX11_stock_42 rfl rfl rfl ?_
      exact me_iret dX11_stock_43 rfl (fun z => z) rfl
    · refine me_iload_n (pc' := 15) (i := 2) dX11_stock_14 rfl rfl rfl ?_
      refine me_aload_n (pc' := 16) (i := 0) dX11_stock_15 rfl rfl rfl ?_
      refine me_iload_n (pc' := 17) (i := 3) dX11_stock_16 rfl rfl rfl ?_
      refine me_iload_n (pc' := 18) (i := 1) dX11_stock_17 rfl rfl rfl ?_
      refine me_callV (As := [.int w3, .int u1]) (st := [.int w2]) (F' := (mm_Sq q)) (G' := (mm_Sq q)) (F'' := (mm_Sq q)) (pc' := 21) dX11_stock_18 rfl mfX11_isOf rfl lkX11_98 kd_352 rfl (mm_ltm kd_352 hN) ⟨Nat.le_of_ble_eq_true rfl, Nat.le_of_ble_eq_true rfl⟩ (Nat.le_of_ble_eq_true rfl) (fun z => z) (rX11_isOf (q := q) w3 u1 h hN) (fun x6 e7 => Or.inl ⟨_, _, rfl, fun z => z, ?_⟩)
      show mm_E2 _ _ _ _ _ [.int (mx_bi x6), .int w2] h _ _
      refine mm_jnI (fun (j109 : Int32 → Int32 → Option Int32) => ∀ (y8 : Int32) (y9 : Int32), mm_E2 (mm_Sq q) (mm_Sq q) mX11_stock 34 [some (.ref 352), some (.int u1), none, some (.int w3)] [.int y8, .int y9] h (j109 y8 y9) (lf_i h)) ?_ (fun j10 j10p => ?_)
      · intro y8 y9
        refine me_iadd (pc' := 35) dX11_stock_34 rfl ?_
        refine mm_bnd ((y9 + y8)) (fun x11 => [some (.ref 352), some (.int u1), none, some (.int w3)]) (fun x11 => [.int x11]) (fun _ => h) (fun x11 => ?_)
        refine me_istore_n (pc' := 36) (i := 2) (L' := [some (.ref 352), some (.int u1), some (.int x11), some (.int w3)]) dX11_stock_35 rfl rfl (Nat.le_of_ble_eq_true rfl) (Nat.le_of_ble_eq_true rfl) rfl ?_
        refine me_iinc (pc' := 39) (i := 3) (x := w3) (y := w3 + 1) (L' := [some (.ref 352), some (.int u1), some (.int x11), some (.int (w3 + 1))]) dX11_stock_36 rfl (Nat.le_of_ble_eq_true rfl) (Nat.le_of_ble_eq_true rfl) rfl (kc_plus kc_i1) rfl ?_
        refine mm_bnd (w3 + 1) (fun x12 => [some (.ref 352), some (.int u1), some (.int x11), some (.int x12)]) (fun _ => []) (fun _ => h) (fun x12 => ?_)
        refine me_goto (tgt := 4) dX11_stock_39 (by decide) ?_
        exact ih x11 x12
      refine me_ifB_eq (pc' := 24) (tgt := 33) dX11_stock_21 (by decide) rfl (fun c13 => ?_) (fun c13 => ?_)
      · refine me_iconst (pc' := 34) (v := 0) dX11_stock_33 rfl kc_i0 ?_
        exact mm_maskB [true, true, false, true] (j10p 0 w2)
      · refine me_aload_n (pc' := 25) (i := 0) dX11_stock_24 rfl rfl rfl ?_
        refine me_iload_n (pc' := 26) (i := 3) dX11_stock_25 rfl rfl rfl ?_
        refine me_iconst (pc' := 27) (v := 1) dX11_stock_26 rfl kc_i1 ?_
        refine me_callV (As := [.int w3, .int 1]) (st := [.int w2]) (F' := (mm_Sq q)) (G' := (mm_Sq q)) (F'' := (mm_Sq q)) (pc' := 30) dX11_stock_27 rfl mfX11_ofBatch rfl lkX11_91 kd_352 rfl (mm_ltm kd_352 hN) ⟨Nat.le_of_ble_eq_true rfl, Nat.le_of_ble_eq_true rfl⟩ (Nat.le_of_ble_eq_true rfl) (fun z => z) (rX11_ofBatch (q := q) w3 1 h hN) (fun x14 e15 => Or.inl ⟨_, _, rfl, fun z => z, ?_⟩)
        show mm_E2 _ _ _ _ _ [.int x14, .int w2] h _ _
        refine me_goto (tgt := 34) dX11_stock_30 (by decide) ?_
        exact mm_maskB [true, true, false, true] (j10p x14 w2)
theorem rX11_stock {q : Nat × Nat} (p0 : Int32) (h : mm_H) (hN : 358 ≤ q.1) : mm_R2 (mm_Sq q) (mm_Sq q) mX11_stock [.ref 352, .int p0] h (gX11_stock p0 h) (lf_i h) := by
  refine mm_body (L := [some (.ref 352), some (.int p0), none, none]) rfl (by decide +kernel) (Nat.le_of_ble_eq_true rfl) rfl ?_
  unfold gX11_stock
  refine me_iconst (pc' := 1) (v := 0) dX11_stock_0 rfl kc_i0 ?_
  refine me_istore_n (pc' := 2) (i := 2) (L' := [some (.ref 352), some (.int p0), some (.int 0), none]) dX11_stock_1 rfl rfl (Nat.le_of_ble_eq_true rfl) (Nat.le_of_ble_eq_true rfl) rfl ?_
  refine me_iconst (pc' := 3) (v := 0) dX11_stock_2 rfl kc_i0 ?_
  refine me_istore_n (pc' := 4) (i := 3) (L' := [some (.ref 352), some (.int p0), some (.int 0), some (.int 0)]) dX11_stock_3 rfl rfl (Nat.le_of_ble_eq_true rfl) (Nat.le_of_ble_eq_true rfl) rfl ?_
  exact rX11_stock_L4 (q := q) p0 h hN mm_F 0 0
def gX11_worth_L4 (u1 : Int32) (h : mm_H) : Nat → Int32 → Int32 → Option Int32
  | 0, _, _ => none
  | n + 1, w2, w3 =>
    if mm_ibd 2 4200 = true then
    if w3 < (mh_I h 353 (Int32.toNatClampNeg (2))) then
    (gX11_isOf w3 u1 h).bind (fun (x6 : Bool) =>
    mm_jn (fun (y8 : Int32) (y9 : Int32) =>
    (some ((y9 + y8))).bind (fun (x11 : Int32) =>
    (some (w3 + 1)).bind (fun (x12 : Int32) =>
    gX11_worth_L4 u1 h n x11 x12))) (fun (j10 : Int32 → Int32 → Option Int32) =>
    if x6 = true then
    (gX11_ofBatch w3 1 h).bind (fun (x14 : Int32) =>
    (gX11_ofBatch w3 3 h).bind (fun (x16 : Int32) =>
    j10 ((x14 * x16)) w2))
    else
    j10 0 w2))
    else
    some w2 else none
def gX11_worth (p0 : Int32) (h : mm_H) : Option Int32 :=
gX11_worth_L4 p0 h mm_F 0 0
theorem rX11_worth_L4 {q : Nat × Nat}  (u1 : Int32)  (h : mm_H)  (hN : 358 ≤ q.1) : ∀ (n : Nat) (w2 : Int32) (w3 : Int32), mm_E2 (mm_Sq q) (mm_Sq q) mX11_worth 4 [some (.ref 352), some (.int u1), some (.int w2), some (.int w3)] [] h (gX11_worth_L4 u1 h n w2 w3) (lf_i h) := by
  intro n
  induction n with
  | zero =>
    intro w2 w3
    exact mm_none
  | succ n ih =>
    intro w2 w3
    rw [gX11_worth_L4]
    refine me_iload_n (pc' := 5) (i := 3) dX11_worth_4 rfl rfl rfl ?_
    refine me_aload_n (pc' := 6) (i := 0) dX11_worth_5 rfl rfl rfl ?_
    refine me_getR (pc' := 9) (q' := 353) dX11_worth_6 rfl fkX11_13 kd_352 (mm_ltm kd_352 hN) rfl (mrX11_0 hN) ?_
    refine me_iconst (pc' := 10) (v := 2) dX11_worth_9 rfl kc_i2 ?_
    refine mm_guard (fun c4 => ?_)
    refine me_iald (pc' := 11) dX11_worth_10 rfl kd_353 (mm_ltm kd_353 hN) (mm_ibd_of c4) ?_
    refine me_icmp_ge (pc' := 14) (tgt := 49) dX11_worth_11 (by decide) rfl (fun c5 => ?_) (fun c5 => ?_)
    · refine me_iload_n (pc' := 50) (i := 2) dX11_worth_49 rfl rfl rfl ?_
      exact me_iret dX11_worth_50 rfl (fun z => z) rfl
    · refine me_iload_n (pc' := 15) (i := 2) dX11_worth_14 rfl rfl rfl ?_
      refine me_aload_n (pc' := 16) (i := 0) dX11_worth_15 rfl rfl rfl ?_
      refine me_iload_n (pc' := 17) (i := 3) dX11_worth_16 rfl rfl rfl ?_
      refine me_iload_n (pc' := 18) (i := 1) dX11_worth_17 rfl rfl rfl ?_
      refine me_callV (As := [.int w3, .int u1]) (st := [.int w2]) (F' := (mm_Sq q)) (G' := (mm_Sq q)) (F'' := (mm_Sq q)) (pc' := 21) dX11_worth_18 rfl mfX11_isOf rfl lkX11_98 kd_352 rfl (mm_ltm kd_352 hN) ⟨Nat.le_of_ble_eq_true rfl, Nat.le_of_ble_eq_true rfl⟩ (Nat.le_of_ble_eq_true rfl) (fun z => z) (rX11_isOf (q := q) w3 u1 h hN) (fun x6 e7 => Or.inl ⟨_, _, rfl, fun z => z, ?_⟩)
      show mm_E2 _ _ _ _ _ [.int (mx_bi x6), .int w2] h _ _
      refine mm_jnI (fun (j109 : Int32 → Int32 → Option Int32) => ∀ (y8 : Int32) (y9 : Int32), mm_E2 (mm_Sq q) (mm_Sq q) mX11_worth 41 [some (.ref 352), some (.int u1), none, some (.int w3)] [.int y8, .int y9] h (j109 y8 y9) (lf_i h)) ?_ (fun j10 j10p => ?_)
      · intro y8 y9
        refine me_iadd (pc' := 42) dX11_worth_41 rfl ?_
        refine mm_bnd ((y9 + y8)) (fun x11 => [some (.ref 352), some (.int u1), none, some (.int w3)]) (fun x11 => [.int x11]) (fun _ => h) (fun x11 => ?_)
        refine me_istore_n (pc' := 43) (i := 2) (L' := [some (.ref 352), some (.int u1), some (.int x11), some (.int w3)]) dX11_worth_42 rfl rfl (Nat.le_of_ble_eq_true rfl) (Nat.le_of_ble_eq_true rfl) rfl ?_
        refine me_iinc (pc' := 46) (i := 3) (x := w3) (y := w3 + 1) (L' := [some (.ref 352), some (.int u1), some (.int x11), some (.int (w3 + 1))]) dX11_worth_43 rfl (Nat.le_of_ble_eq_true rfl) (Nat.le_of_ble_eq_true rfl) rfl (kc_plus kc_i1) rfl ?_
        refine mm_bnd (w3 + 1) (fun x12 => [some (.ref 352), some (.int u1), some (.int x11), some (.int x12)]) (fun _ => []) (fun _ => h) (fun x12 => ?_)
        refine me_goto (tgt := 4) dX11_worth_46 (by decide) ?_
        exact ih x11 x12
      refine me_ifB_eq (pc' := 24) (tgt := 40) dX11_worth_21 (by decide) rfl (fun c13 => ?_) (fun c13 => ?_)
      · refine me_iconst (pc' := 41) (v := 0) dX11_worth_40 rfl kc_i0 ?_
        exact mm_maskB [true, true, false, true] (j10p 0 w2)
      · refine me_aload_n (pc' := 25) (i := 0) dX11_worth_24 rfl rfl rfl ?_
        refine me_iload_n (pc' := 26) (i := 3) dX11_worth_25 rfl rfl rfl ?_
        refine me_iconst (pc' := 27) (v := 1) dX11_worth_26 rfl kc_i1 ?_
        refine me_callV (As := [.int w3, .int 1]) (st := [.int w2]) (F' := (mm_Sq q)) (G' := (mm_Sq q)) (F'' := (mm_Sq q)) (pc' := 30) dX11_worth_27 rfl mfX11_ofBatch rfl lkX11_91 kd_352 rfl (mm_ltm kd_352 hN) ⟨Nat.le_of_ble_eq_true rfl, Nat.le_of_ble_eq_true rfl⟩ (Nat.le_of_ble_eq_true rfl) (fun z => z) (rX11_ofBatch (q := q) w3 1 h hN) (fun x14 e15 => Or.inl ⟨_, _, rfl, fun z => z, ?_⟩)
        show mm_E2 _ _ _ _ _ [.int x14, .int w2] h _ _
        refine me_aload_n (pc' := 31) (i := 0) dX11_worth_30 rfl rfl rfl ?_
        refine me_iload_n (pc' := 32) (i := 3) dX11_worth_31 rfl rfl rfl ?_
        refine me_iconst (pc' := 33) (v := 3) dX11_worth_32 rfl kc_i3 ?_
        refine me_callV (As := [.int w3, .int 3]) (st := [.int x14, .int w2]) (F' := (mm_Sq q)) (G' := (mm_Sq q)) (F'' := (mm_Sq q)) (pc' := 36) dX11_worth_33 rfl mfX11_ofBatch rfl lkX11_91 kd_352 rfl (mm_ltm kd_352 hN) ⟨Nat.le_of_ble_eq_true rfl, Nat.le_of_ble_eq_true rfl⟩ (Nat.le_of_ble_eq_true rfl) (fun z => z) (rX11_ofBatch (q := q) w3 3 h hN) (fun x16 e17 => Or.inl ⟨_, _, rfl, fun z => z, ?_⟩)
        show mm_E2 _ _ _ _ _ [.int x16, .int x14, .int w2] h _ _
        refine me_imul (pc' := 37) dX11_worth_36 rfl ?_
        refine me_goto (tgt := 41) dX11_worth_37 (by decide) ?_
        exact mm_maskB [true, true, false, true] (j10p ((x14 * x16)) w2)
theorem rX11_worth {q : Nat × Nat} (p0 : Int32) (h : mm_H) (hN : 358 ≤ q.1) : mm_R2 (mm_Sq q) (mm_Sq q) mX11_worth [.ref 352, .int p0] h (gX11_worth p0 h) (lf_i h) := by
  refine mm_body (L := [some (.ref 352), some (.int p0), none, none]) rfl (by decide +kernel) (Nat.le_of_ble_eq_true rfl) rfl ?_
  unfold gX11_worth
  refine me_iconst (pc' := 1) (v := 0) dX11_worth_0 rfl kc_i0 ?_
  refine me_istore_n (pc' := 2) (i := 2) (L' := [some (.ref 352), some (.int p0), some (.int 0), none]) dX11_worth_1 rfl rfl (Nat.le_of_ble_eq_true rfl) (Nat.le_of_ble_eq_true rfl) rfl ?_
  refine me_iconst (pc' := 3) (v := 0) dX11_worth_2 rfl kc_i0 ?_
  refine me_istore_n (pc' := 4) (i := 3) (L' := [some (.ref 352), some (.int p0), some (.int 0), some (.int 0)]) dX11_worth_3 rfl rfl (Nat.le_of_ble_eq_true rfl) (Nat.le_of_ble_eq_true rfl) rfl ?_
  exact rX11_worth_L4 (q := q) p0 h hN mm_F 0 0
def gX11_toOrder (p0 : Int32) (h : mm_H) : Option Int32 :=
(gX11_ofProduct p0 7 h).bind (fun (x1 : Int32) =>
if mm_ibd 0 4200 = true then
(gX11_available p0 ((mh_I h 353 (Int32.toNatClampNeg (0)))) h).bind (fun (x4 : Int32) =>
(some ((x1 - x4))).bind (fun (x6 : Int32) =>
if 0 < x6 then
some x6
else
some 0)) else none)
theorem rX11_toOrder {q : Nat × Nat} (p0 : Int32) (h : mm_H) (hN : 358 ≤ q.1) : mm_R2 (mm_Sq q) (mm_Sq q) mX11_toOrder [.ref 352, .int p0] h (gX11_toOrder p0 h) (lf_i h) := by
  refine mm_body (L := [some (.ref 352), some (.int p0), none]) rfl (by decide +kernel) (Nat.le_of_ble_eq_true rfl) rfl ?_
  unfold gX11_toOrder
  refine me_aload_n (pc' := 1) (i := 0) dX11_toOrder_0 rfl rfl rfl ?_
  refine me_iload_n (pc' := 2) (i := 1) dX11_toOrder_1 rfl rfl rfl ?_
  refine me_bipush (pc' := 4) (v := 7) dX11_toOrder_2 rfl kc_b7 ?_
  refine me_callV (As := [.int p0, .int 7]) (st := []) (F' := (mm_Sq q)) (G' := (mm_Sq q)) (F'' := (mm_Sq q)) (pc' := 7) dX11_toOrder_4 rfl mfX11_ofProduct rfl lkX11_127 kd_352 rfl (mm_ltm kd_352 hN) ⟨Nat.le_of_ble_eq_true rfl, Nat.le_of_ble_eq_true rfl⟩ (Nat.le_of_ble_eq_true rfl) (fun z => z) (rX11_ofProduct (q := q) p0 7 h hN) (fun x1 e2 => Or.inl ⟨_, _, rfl, fun z => z, ?_⟩)
  show mm_E2 _ _ _ _ _ [.int x1] h _ _
  refine me_aload_n (pc' := 8) (i := 0) dX11_toOrder_7 rfl rfl rfl ?_
  refine me_iload_n (pc' := 9) (i := 1) dX11_toOrder_8 rfl rfl rfl ?_
  refine me_aload_n (pc' := 10) (i := 0) dX11_toOrder_9 rfl rfl rfl ?_
  refine me_getR (pc' := 13) (q' := 353) dX11_toOrder_10 rfl fkX11_13 kd_352 (mm_ltm kd_352 hN) rfl (mrX11_0 hN) ?_
  refine me_iconst (pc' := 14) (v := 0) dX11_toOrder_13 rfl kc_i0 ?_
  refine mm_guard (fun c3 => ?_)
  refine me_iald (pc' := 15) dX11_toOrder_14 rfl kd_353 (mm_ltm kd_353 hN) (mm_ibd_of c3) ?_
  refine me_callV (As := [.int p0, .int (mh_I h 353 (Int32.toNatClampNeg (0)))]) (st := [.int x1]) (F' := (mm_Sq q)) (G' := (mm_Sq q)) (F'' := (mm_Sq q)) (pc' := 18) dX11_toOrder_15 rfl mfX11_available rfl lkX11_130 kd_352 rfl (mm_ltm kd_352 hN) ⟨Nat.le_of_ble_eq_true rfl, Nat.le_of_ble_eq_true rfl⟩ (Nat.le_of_ble_eq_true rfl) (fun z => z) (rX11_available (q := q) p0 ((mh_I h 353 (Int32.toNatClampNeg (0)))) h hN) (fun x4 e5 => Or.inl ⟨_, _, rfl, fun z => z, ?_⟩)
  show mm_E2 _ _ _ _ _ [.int x4, .int x1] h _ _
  refine me_isub (pc' := 19) dX11_toOrder_18 rfl ?_
  refine mm_bnd ((x1 - x4)) (fun x6 => [some (.ref 352), some (.int p0), none]) (fun x6 => [.int x6]) (fun _ => h) (fun x6 => ?_)
  refine me_istore_n (pc' := 20) (i := 2) (L' := [some (.ref 352), some (.int p0), some (.int x6)]) dX11_toOrder_19 rfl rfl (Nat.le_of_ble_eq_true rfl) (Nat.le_of_ble_eq_true rfl) rfl ?_
  refine me_iload_n (pc' := 21) (i := 2) dX11_toOrder_20 rfl rfl rfl ?_
  refine me_if_le (pc' := 24) (tgt := 28) dX11_toOrder_21 (by decide) rfl (fun c7 => ?_) (fun c7 => ?_)
  · refine me_iconst (pc' := 29) (v := 0) dX11_toOrder_28 rfl kc_i0 ?_
    exact me_iret dX11_toOrder_29 rfl (fun z => z) rfl
  · refine me_iload_n (pc' := 25) (i := 2) dX11_toOrder_24 rfl rfl rfl ?_
    refine me_goto (tgt := 29) dX11_toOrder_25 (by decide) ?_
    exact me_iret dX11_toOrder_29 rfl (fun z => z) rfl
def gX11_shippingReason_L22 (u7 : Int32) (h : mm_H) : Nat → Int32 → Option Int32
  | 0, _ => none
  | n + 1, w8 =>
    if mm_ibd 2 4200 = true then
    if w8 < (mh_I h 353 (Int32.toNatClampNeg (2))) then
    (gX11_ofReservation u7 ((4 + w8)) h).bind (fun (x11 : Int32) =>
    mm_jn (fun (_ : Unit) =>
    (some (w8 + 1)).bind (fun (x14 : Int32) =>
    gX11_shippingReason_L22 u7 h n x14)) (fun (j13 : Unit → Option Int32) =>
    if 0 < x11 then
    (gX11_isPast w8 h).bind (fun (x16 : Bool) =>
    if x16 = true then
    some 3
    else
    j13 ())
    else
    j13 ()))
    else
    some 0 else none
def gX11_shippingReason (p0 : Int32) (h : mm_H) : Option Int32 :=
(gX11_isOpenOne p0 h).bind (fun (x1 : Bool) =>
if x1 = true then
(gX11_lacking p0 h).bind (fun (x4 : Int32) =>
if 0 < x4 then
some 2
else
gX11_shippingReason_L22 p0 h mm_F 0)
else
some 1)
theorem rX11_shippingReason_L22 {q : Nat × Nat}  (u7 : Int32)  (h : mm_H)  (hN : 358 ≤ q.1) : ∀ (n : Nat) (w8 : Int32), mm_E2 (mm_Sq q) (mm_Sq q) mX11_shippingReason 22 [some (.ref 352), some (.int u7), some (.int w8)] [] h (gX11_shippingReason_L22 u7 h n w8) (lf_i h) := by
  intro n
  induction n with
  | zero =>
    intro w8
    exact mm_none
  | succ n ih =>
    intro w8
    rw [gX11_shippingReason_L22]
    refine me_iload_n (pc' := 23) (i := 2) dX11_shippingReason_22 rfl rfl rfl ?_
    refine me_aload_n (pc' := 24) (i := 0) dX11_shippingReason_23 rfl rfl rfl ?_
    refine me_getR (pc' := 27) (q' := 353) dX11_shippingReason_24 rfl fkX11_13 kd_352 (mm_ltm kd_352 hN) rfl (mrX11_0 hN) ?_
    refine me_iconst (pc' := 28) (v := 2) dX11_shippingReason_27 rfl kc_i2 ?_
    refine mm_guard (fun c9 => ?_)
    refine me_iald (pc' := 29) dX11_shippingReason_28 rfl kd_353 (mm_ltm kd_353 hN) (mm_ibd_of c9) ?_
    refine me_icmp_ge (pc' := 32) (tgt := 59) dX11_shippingReason_29 (by decide) rfl (fun c10 => ?_) (fun c10 => ?_)
    · refine me_iconst (pc' := 60) (v := 0) dX11_shippingReason_59 rfl kc_i0 ?_
      exact me_iret dX11_shippingReason_60 rfl (fun z => z) rfl
    · refine me_aload_n (pc' := 33) (i := 0) dX11_shippingReason_32 rfl rfl rfl ?_
      refine me_iload_n (pc' := 34) (i := 1) dX11_shippingReason_33 rfl rfl rfl ?_
      refine me_iconst (pc' := 35) (v := 4) dX11_shippingReason_34 rfl kc_i4 ?_
      refine me_iload_n (pc' := 36) (i := 2) dX11_shippingReason_35 rfl rfl rfl ?_
      refine me_iadd (pc' := 37) dX11_shippingReason_36 rfl ?_
      refine me_callV (As := [.int u7, .int (4 + w8)]) (st := []) (F' := (mm_Sq q)) (G' := (mm_Sq q)) (F'' := (mm_Sq q)) (pc' := 40) dX11_shippingReason_37 rfl mfX11_ofReservation rfl lkX11_83 kd_352 rfl (mm_ltm kd_352 hN) ⟨Nat.le_of_ble_eq_true rfl, Nat.le_of_ble_eq_true rfl⟩ (Nat.le_of_ble_eq_true rfl) (fun z => z) (rX11_ofReservation (q := q) u7 ((4 + w8)) h hN) (fun x11 e12 => Or.inl ⟨_, _, rfl, fun z => z, ?_⟩)
      show mm_E2 _ _ _ _ _ [.int x11] h _ _
      refine mm_jnI (fun (j139 : Unit → Option Int32) => ∀ (_ : Unit), mm_E2 (mm_Sq q) (mm_Sq q) mX11_shippingReason 53 [some (.ref 352), some (.int u7), some (.int w8)] [] h (j139 ()) (lf_i h)) ?_ (fun j13 j13p => ?_)
      · intro _
        refine me_iinc (pc' := 56) (i := 2) (x := w8) (y := w8 + 1) (L' := [some (.ref 352), some (.int u7), some (.int (w8 + 1))]) dX11_shippingReason_53 rfl (Nat.le_of_ble_eq_true rfl) (Nat.le_of_ble_eq_true rfl) rfl (kc_plus kc_i1) rfl ?_
        refine mm_bnd (w8 + 1) (fun x14 => [some (.ref 352), some (.int u7), some (.int x14)]) (fun _ => []) (fun _ => h) (fun x14 => ?_)
        refine me_goto (tgt := 22) dX11_shippingReason_56 (by decide) ?_
        exact ih x14
      refine me_if_le (pc' := 43) (tgt := 53) dX11_shippingReason_40 (by decide) rfl (fun c15 => ?_) (fun c15 => ?_)
      · exact j13p ()
      · refine me_aload_n (pc' := 44) (i := 0) dX11_shippingReason_43 rfl rfl rfl ?_
        refine me_iload_n (pc' := 45) (i := 2) dX11_shippingReason_44 rfl rfl rfl ?_
        refine me_callV (As := [.int w8]) (st := []) (F' := (mm_Sq q)) (G' := (mm_Sq q)) (F'' := (mm_Sq q)) (pc' := 48) dX11_shippingReason_45 rfl mfX11_isPast rfl lkX11_124 kd_352 rfl (mm_ltm kd_352 hN) ⟨Nat.le_of_ble_eq_true rfl, Nat.le_of_ble_eq_true rfl⟩ (Nat.le_of_ble_eq_true rfl) (fun z => z) (rX11_isPast (q := q) w8 h hN) (fun x16 e17 => Or.inl ⟨_, _, rfl, fun z => z, ?_⟩)
        show mm_E2 _ _ _ _ _ [.int (mx_bi x16)] h _ _
        refine me_ifB_eq (pc' := 51) (tgt := 53) dX11_shippingReason_48 (by decide) rfl (fun c18 => ?_) (fun c18 => ?_)
        · exact j13p ()
        · refine me_iconst (pc' := 52) (v := 3) dX11_shippingReason_51 rfl kc_i3 ?_
          exact me_iret dX11_shippingReason_52 rfl (fun z => z) rfl
theorem rX11_shippingReason {q : Nat × Nat} (p0 : Int32) (h : mm_H) (hN : 358 ≤ q.1) : mm_R2 (mm_Sq q) (mm_Sq q) mX11_shippingReason [.ref 352, .int p0] h (gX11_shippingReason p0 h) (lf_i h) := by
  refine mm_body (L := [some (.ref 352), some (.int p0), none]) rfl (by decide +kernel) (Nat.le_of_ble_eq_true rfl) rfl ?_
  unfold gX11_shippingReason
  refine me_aload_n (pc' := 1) (i := 0) dX11_shippingReason_0 rfl rfl rfl ?_
  refine me_iload_n (pc' := 2) (i := 1) dX11_shippingReason_1 rfl rfl rfl ?_
  refine me_callV (As := [.int p0]) (st := []) (F' := (mm_Sq q)) (G' := (mm_Sq q)) (F'' := (mm_Sq q)) (pc' := 5) dX11_shippingReason_2 rfl mfX11_isOpenOne rfl lkX11_87 kd_352 rfl (mm_ltm kd_352 hN) ⟨Nat.le_of_ble_eq_true rfl, Nat.le_of_ble_eq_true rfl⟩ (Nat.le_of_ble_eq_true rfl) (fun z => z) (rX11_isOpenOne (q := q) p0 h hN) (fun x1 e2 => Or.inl ⟨_, _, rfl, fun z => z, ?_⟩)
  show mm_E2 _ _ _ _ _ [.int (mx_bi x1)] h _ _
  refine me_ifB_ne (pc' := 8) (tgt := 10) dX11_shippingReason_5 (by decide) rfl (fun c3 => ?_) (fun c3 => ?_)
  · refine me_aload_n (pc' := 11) (i := 0) dX11_shippingReason_10 rfl rfl rfl ?_
    refine me_iload_n (pc' := 12) (i := 1) dX11_shippingReason_11 rfl rfl rfl ?_
    refine me_callV (As := [.int p0]) (st := []) (F' := (mm_Sq q)) (G' := (mm_Sq q)) (F'' := (mm_Sq q)) (pc' := 15) dX11_shippingReason_12 rfl mfX11_lacking rfl lkX11_133 kd_352 rfl (mm_ltm kd_352 hN) ⟨Nat.le_of_ble_eq_true rfl, Nat.le_of_ble_eq_true rfl⟩ (Nat.le_of_ble_eq_true rfl) (fun z => z) (rX11_lacking (q := q) p0 h hN) (fun x4 e5 => Or.inl ⟨_, _, rfl, fun z => z, ?_⟩)
    show mm_E2 _ _ _ _ _ [.int x4] h _ _
    refine me_if_le (pc' := 18) (tgt := 20) dX11_shippingReason_15 (by decide) rfl (fun c6 => ?_) (fun c6 => ?_)
    · refine me_iconst (pc' := 21) (v := 0) dX11_shippingReason_20 rfl kc_i0 ?_
      refine me_istore_n (pc' := 22) (i := 2) (L' := [some (.ref 352), some (.int p0), some (.int 0)]) dX11_shippingReason_21 rfl rfl (Nat.le_of_ble_eq_true rfl) (Nat.le_of_ble_eq_true rfl) rfl ?_
      exact rX11_shippingReason_L22 (q := q) p0 h hN mm_F 0
    · refine me_iconst (pc' := 19) (v := 2) dX11_shippingReason_18 rfl kc_i2 ?_
      exact me_iret dX11_shippingReason_19 rfl (fun z => z) rfl
  · refine me_iconst (pc' := 9) (v := 1) dX11_shippingReason_8 rfl kc_i1 ?_
    exact me_iret dX11_shippingReason_9 rfl (fun z => z) rfl
def gX11_reserveIt_L11 (u3 : Int32) (u4 : Int32) (u5 : Int32) (u6 : Int32) : Nat → Int32 → mm_H → Option (Int32 × mm_H)
  | 0, _, _ => none
  | n + 1, w7, h8 =>
    if w7 < 24 then
    (gX11_setReservation u6 w7 0 h8).bind (fun (h23 : mm_H) =>
    (some (w7 + 1)).bind (fun (x25 : Int32) =>
    gX11_reserveIt_L11 u3 u4 u5 u6 n x25 h23))
    else
    (gX11_setReservation u6 0 u3 h8).bind (fun (h10 : mm_H) =>
    (gX11_setReservation u6 1 u4 h10).bind (fun (h12 : mm_H) =>
    (gX11_setReservation u6 2 u5 h12).bind (fun (h14 : mm_H) =>
    (gX11_setReservation u6 3 0 h14).bind (fun (h16 : mm_H) =>
    if mm_ibd 3 4200 = true then
    if mm_ibd 3 4200 = true then
    (some (ms_I h16 353 (Int32.toNatClampNeg (3)) (((mh_I h16 353 (Int32.toNatClampNeg (3))) + 1)))).bind (fun (h20 : mm_H) =>
    (gX11_allocate u6 u4 u5 h20).bind (fun (x21 : (Int32 × mm_H)) =>
    some (u6, x21.2))) else none else none))))
def gX11_reserveIt (p0 : Int32) (p1 : Int32) (p2 : Int32) (h : mm_H) : Option (Int32 × mm_H) :=
if mm_ibd 3 4200 = true then
(some ((mh_I h 353 (Int32.toNatClampNeg (3))))).bind (fun (x2 : Int32) =>
gX11_reserveIt_L11 p0 p1 p2 x2 mm_F 0 h) else none
theorem rX11_reserveIt_L11 {q : Nat × Nat}  (u3 : Int32) (u4 : Int32) (u5 : Int32) (u6 : Int32)    (hN : 358 ≤ q.1) : ∀ (n : Nat) (w7 : Int32) (h8 : mm_H), mm_E2 (mm_Sq q) (mm_Sq q) mX11_reserveIt 11 [some (.ref 352), some (.int u3), some (.int u4), some (.int u5), some (.int u6), some (.int w7)] [] h8 (gX11_reserveIt_L11 u3 u4 u5 u6  n w7 h8) lf_ie := by
  intro n
  induction n with
  | zero =>
    intro w7 h8
    exact mm_none
  | succ n ih =>
    intro w7 h8
    rw [gX11_reserveIt_L11]
    refine me_iload (pc' := 13) (i := 5) dX11_reserveIt_11 rfl rfl ?_
    refine me_bipush (pc' := 15) (v := 24) dX11_reserveIt_13 rfl kc_b24 ?_
    refine me_icmp_ge (pc' := 18) (tgt := 33) dX11_reserveIt_15 (by decide) rfl (fun c9 => ?_) (fun c9 => ?_)
    · refine me_aload_n (pc' := 34) (i := 0) dX11_reserveIt_33 rfl rfl rfl ?_
      refine me_iload (pc' := 36) (i := 4) dX11_reserveIt_34 rfl rfl ?_
      refine me_iconst (pc' := 37) (v := 0) dX11_reserveIt_36 rfl kc_i0 ?_
      refine me_iload_n (pc' := 38) (i := 1) dX11_reserveIt_37 rfl rfl rfl ?_
      refine me_callV (As := [.int u6, .int 0, .int u3]) (st := []) (F' := (mm_Sq q)) (G' := (mm_Sq q)) (F'' := (mm_Sq q)) (pc' := 41) dX11_reserveIt_38 rfl mfX11_setReservation rfl lkX11_118 kd_352 rfl (mm_ltm kd_352 hN) ⟨Nat.le_of_ble_eq_true rfl, Nat.le_of_ble_eq_true rfl⟩ (Nat.le_of_ble_eq_true rfl) (fun z => z) (rX11_setReservation (q := q) u6 0 u3 h8 hN) (fun h10 e11 => Or.inl ⟨_, _, rfl, fun z => z, ?_⟩)
      show mm_E2 _ _ _ _ _ [] h10 _ _
      refine me_aload_n (pc' := 42) (i := 0) dX11_reserveIt_41 rfl rfl rfl ?_
      refine me_iload (pc' := 44) (i := 4) dX11_reserveIt_42 rfl rfl ?_
      refine me_iconst (pc' := 45) (v := 1) dX11_reserveIt_44 rfl kc_i1 ?_
      refine me_iload_n (pc' := 46) (i := 2) dX11_reserveIt_45 rfl rfl rfl ?_
      refine me_callV (As := [.int u6, .int 1, .int u4]) (st := []) (F' := (mm_Sq q)) (G' := (mm_Sq q)) (F'' := (mm_Sq q)) (pc' := 49) dX11_reserveIt_46 rfl mfX11_setReservation rfl lkX11_118 kd_352 rfl (mm_ltm kd_352 hN) ⟨Nat.le_of_ble_eq_true rfl, Nat.le_of_ble_eq_true rfl⟩ (Nat.le_of_ble_eq_true rfl) (fun z => z) (rX11_setReservation (q := q) u6 1 u4 h10 hN) (fun h12 e13 => Or.inl ⟨_, _, rfl, fun z => z, ?_⟩)
      show mm_E2 _ _ _ _ _ [] h12 _ _
      refine me_aload_n (pc' := 50) (i := 0) dX11_reserveIt_49 rfl rfl rfl ?_
      refine me_iload (pc' := 52) (i := 4) dX11_reserveIt_50 rfl rfl ?_
      refine me_iconst (pc' := 53) (v := 2) dX11_reserveIt_52 rfl kc_i2 ?_
      refine me_iload_n (pc' := 54) (i := 3) dX11_reserveIt_53 rfl rfl rfl ?_
      refine me_callV (As := [.int u6, .int 2, .int u5]) (st := []) (F' := (mm_Sq q)) (G' := (mm_Sq q)) (F'' := (mm_Sq q)) (pc' := 57) dX11_reserveIt_54 rfl mfX11_setReservation rfl lkX11_118 kd_352 rfl (mm_ltm kd_352 hN) ⟨Nat.le_of_ble_eq_true rfl, Nat.le_of_ble_eq_true rfl⟩ (Nat.le_of_ble_eq_true rfl) (fun z => z) (rX11_setReservation (q := q) u6 2 u5 h12 hN) (fun h14 e15 => Or.inl ⟨_, _, rfl, fun z => z, ?_⟩)
      show mm_E2 _ _ _ _ _ [] h14 _ _
      refine me_aload_n (pc' := 58) (i := 0) dX11_reserveIt_57 rfl rfl rfl ?_
      refine me_iload (pc' := 60) (i := 4) dX11_reserveIt_58 rfl rfl ?_
      refine me_iconst (pc' := 61) (v := 3) dX11_reserveIt_60 rfl kc_i3 ?_
      refine me_iconst (pc' := 62) (v := 0) dX11_reserveIt_61 rfl kc_i0 ?_
      refine me_callV (As := [.int u6, .int 3, .int 0]) (st := []) (F' := (mm_Sq q)) (G' := (mm_Sq q)) (F'' := (mm_Sq q)) (pc' := 65) dX11_reserveIt_62 rfl mfX11_setReservation rfl lkX11_118 kd_352 rfl (mm_ltm kd_352 hN) ⟨Nat.le_of_ble_eq_true rfl, Nat.le_of_ble_eq_true rfl⟩ (Nat.le_of_ble_eq_true rfl) (fun z => z) (rX11_setReservation (q := q) u6 3 0 h14 hN) (fun h16 e17 => Or.inl ⟨_, _, rfl, fun z => z, ?_⟩)
      show mm_E2 _ _ _ _ _ [] h16 _ _
      refine me_aload_n (pc' := 66) (i := 0) dX11_reserveIt_65 rfl rfl rfl ?_
      refine me_getR (pc' := 69) (q' := 353) dX11_reserveIt_66 rfl fkX11_13 kd_352 (mm_ltm kd_352 hN) rfl (mrX11_0 hN) ?_
      refine me_iconst (pc' := 70) (v := 3) dX11_reserveIt_69 rfl kc_i3 ?_
      refine me_dup2 (pc' := 71) dX11_reserveIt_70 rfl rfl rfl ?_
      refine mm_guard (fun c18 => ?_)
      refine me_iald (pc' := 72) dX11_reserveIt_71 rfl kd_353 (mm_ltm kd_353 hN) (mm_ibd_of c18) ?_
      refine me_iconst (pc' := 73) (v := 1) dX11_reserveIt_72 rfl kc_i1 ?_
      refine me_iadd (pc' := 74) dX11_reserveIt_73 rfl ?_
      refine mm_guard (fun c19 => ?_)
      refine me_iast (F' := (mm_Sq q)) (pc' := 75) dX11_reserveIt_74 rfl kd_353 (mm_ltm kd_353 hN) (mm_ibd_of c19) (fun z => z) ?_
      refine mm_bnd (ms_I h16 353 (Int32.toNatClampNeg (3)) (((mh_I h16 353 (Int32.toNatClampNeg (3))) + 1))) (fun _ => [some (.ref 352), some (.int u3), some (.int u4), some (.int u5), some (.int u6), some (.int w7)]) (fun _ => []) (fun h20 => h20) (fun h20 => ?_)
      refine me_aload_n (pc' := 76) (i := 0) dX11_reserveIt_75 rfl rfl rfl ?_
      refine me_iload (pc' := 78) (i := 4) dX11_reserveIt_76 rfl rfl ?_
      refine me_iload_n (pc' := 79) (i := 2) dX11_reserveIt_78 rfl rfl rfl ?_
      refine me_iload_n (pc' := 80) (i := 3) dX11_reserveIt_79 rfl rfl rfl ?_
      refine me_callV (As := [.int u6, .int u4, .int u5]) (st := []) (F' := (mm_Sq q)) (G' := (mm_Sq q)) (F'' := (mm_Sq q)) (pc' := 83) dX11_reserveIt_80 rfl mfX11_allocate rfl lkX11_136 kd_352 rfl (mm_ltm kd_352 hN) ⟨Nat.le_of_ble_eq_true rfl, Nat.le_of_ble_eq_true rfl⟩ (Nat.le_of_ble_eq_true rfl) (fun z => z) (rX11_allocate (q := q) u6 u4 u5 h20 hN) (fun x21 e22 => Or.inl ⟨_, _, rfl, fun z => z, ?_⟩)
      show mm_E2 _ _ _ _ _ [.int x21.1] x21.2 _ _
      refine me_pop (pc' := 84) dX11_reserveIt_83 rfl rfl ?_
      refine me_iload (pc' := 86) (i := 4) dX11_reserveIt_84 rfl rfl ?_
      exact me_iret dX11_reserveIt_86 rfl (fun z => z) rfl
    · refine me_aload_n (pc' := 19) (i := 0) dX11_reserveIt_18 rfl rfl rfl ?_
      refine me_iload (pc' := 21) (i := 4) dX11_reserveIt_19 rfl rfl ?_
      refine me_iload (pc' := 23) (i := 5) dX11_reserveIt_21 rfl rfl ?_
      refine me_iconst (pc' := 24) (v := 0) dX11_reserveIt_23 rfl kc_i0 ?_
      refine me_callV (As := [.int u6, .int w7, .int 0]) (st := []) (F' := (mm_Sq q)) (G' := (mm_Sq q)) (F'' := (mm_Sq q)) (pc' := 27) dX11_reserveIt_24 rfl mfX11_setReservation rfl lkX11_118 kd_352 rfl (mm_ltm kd_352 hN) ⟨Nat.le_of_ble_eq_true rfl, Nat.le_of_ble_eq_true rfl⟩ (Nat.le_of_ble_eq_true rfl) (fun z => z) (rX11_setReservation (q := q) u6 w7 0 h8 hN) (fun h23 e24 => Or.inl ⟨_, _, rfl, fun z => z, ?_⟩)
      show mm_E2 _ _ _ _ _ [] h23 _ _
      refine me_iinc (pc' := 30) (i := 5) (x := w7) (y := w7 + 1) (L' := [some (.ref 352), some (.int u3), some (.int u4), some (.int u5), some (.int u6), some (.int (w7 + 1))]) dX11_reserveIt_27 rfl (Nat.le_of_ble_eq_true rfl) (Nat.le_of_ble_eq_true rfl) rfl (kc_plus kc_i1) rfl ?_
      refine mm_bnd (w7 + 1) (fun x25 => [some (.ref 352), some (.int u3), some (.int u4), some (.int u5), some (.int u6), some (.int x25)]) (fun _ => []) (fun _ => h23) (fun x25 => ?_)
      refine me_goto (tgt := 11) dX11_reserveIt_30 (by decide) ?_
      exact ih x25 h23
theorem rX11_reserveIt {q : Nat × Nat} (p0 : Int32) (p1 : Int32) (p2 : Int32) (h : mm_H) (hN : 358 ≤ q.1) : mm_R2 (mm_Sq q) (mm_Sq q) mX11_reserveIt [.ref 352, .int p0, .int p1, .int p2] h (gX11_reserveIt p0 p1 p2 h) lf_ie := by
  refine mm_body (L := [some (.ref 352), some (.int p0), some (.int p1), some (.int p2), none, none]) rfl (by decide +kernel) (Nat.le_of_ble_eq_true rfl) rfl ?_
  unfold gX11_reserveIt
  refine me_aload_n (pc' := 1) (i := 0) dX11_reserveIt_0 rfl rfl rfl ?_
  refine me_getR (pc' := 4) (q' := 353) dX11_reserveIt_1 rfl fkX11_13 kd_352 (mm_ltm kd_352 hN) rfl (mrX11_0 hN) ?_
  refine me_iconst (pc' := 5) (v := 3) dX11_reserveIt_4 rfl kc_i3 ?_
  refine mm_guard (fun c1 => ?_)
  refine me_iald (pc' := 6) dX11_reserveIt_5 rfl kd_353 (mm_ltm kd_353 hN) (mm_ibd_of c1) ?_
  refine mm_bnd ((mh_I h 353 (Int32.toNatClampNeg (3)))) (fun x2 => [some (.ref 352), some (.int p0), some (.int p1), some (.int p2), none, none]) (fun x2 => [.int x2]) (fun _ => h) (fun x2 => ?_)
  refine me_istore (pc' := 8) (i := 4) (L' := [some (.ref 352), some (.int p0), some (.int p1), some (.int p2), some (.int x2), none]) dX11_reserveIt_6 rfl (Nat.le_of_ble_eq_true rfl) (Nat.le_of_ble_eq_true rfl) rfl ?_
  refine me_iconst (pc' := 9) (v := 0) dX11_reserveIt_8 rfl kc_i0 ?_
  refine me_istore (pc' := 11) (i := 5) (L' := [some (.ref 352), some (.int p0), some (.int p1), some (.int p2), some (.int x2), some (.int 0)]) dX11_reserveIt_9 rfl (Nat.le_of_ble_eq_true rfl) (Nat.le_of_ble_eq_true rfl) rfl ?_
  exact rX11_reserveIt_L11 (q := q) p0 p1 p2 x2 hN mm_F 0 h
def gX11_shipIt_L4 (u1 : Int32) : Nat → Int32 → Int32 → mm_H → Option (Int32 × mm_H)
  | 0, _, _, _ => none
  | n + 1, w2, w3, h4 =>
    if mm_ibd 2 4200 = true then
    if w3 < (mh_I h4 353 (Int32.toNatClampNeg (2))) then
    (gX11_ofReservation u1 ((4 + w3)) h4).bind (fun (x15 : Int32) =>
    (gX11_ofBatch w3 1 h4).bind (fun (x17 : Int32) =>
    (gX11_setBatch w3 1 ((x17 - x15)) h4).bind (fun (h19 : mm_H) =>
    (gX11_ofBatch w3 3 h19).bind (fun (x21 : Int32) =>
    (some ((w2 + (x15 * x21)))).bind (fun (x23 : Int32) =>
    (some (w3 + 1)).bind (fun (x24 : Int32) =>
    gX11_shipIt_L4 u1 n x23 x24 h19))))))
    else
    (gX11_ofReservation u1 0 h4).bind (fun (x7 : Int32) =>
    (gX11_allocated u1 h4).bind (fun (x9 : Int32) =>
    (gX11_note x7 9 x9 h4).bind (fun (h11 : mm_H) =>
    (gX11_setReservation u1 3 1 h11).bind (fun (h13 : mm_H) =>
    some (w2, h13))))) else none
def gX11_shipIt (p0 : Int32) (h : mm_H) : Option (Int32 × mm_H) :=
gX11_shipIt_L4 p0 mm_F 0 0 h
theorem rX11_shipIt_L4 {q : Nat × Nat}  (u1 : Int32)    (hN : 358 ≤ q.1) : ∀ (n : Nat) (w2 : Int32) (w3 : Int32) (h4 : mm_H), mm_E2 (mm_Sq q) (mm_Sq q) mX11_shipIt 4 [some (.ref 352), some (.int u1), some (.int w2), some (.int w3), none] [] h4 (gX11_shipIt_L4 u1  n w2 w3 h4) lf_ie := by
  intro n
  induction n with
  | zero =>
    intro w2 w3 h4
    exact mm_none
  | succ n ih =>
    intro w2 w3 h4
    rw [gX11_shipIt_L4]
    refine me_iload_n (pc' := 5) (i := 3) dX11_shipIt_4 rfl rfl rfl ?_
    refine me_aload_n (pc' := 6) (i := 0) dX11_shipIt_5 rfl rfl rfl ?_
    refine me_getR (pc' := 9) (q' := 353) dX11_shipIt_6 rfl fkX11_13 kd_352 (mm_ltm kd_352 hN) rfl (mrX11_0 hN) ?_
    refine me_iconst (pc' := 10) (v := 2) dX11_shipIt_9 rfl kc_i2 ?_
    refine mm_guard (fun c5 => ?_)
    refine me_iald (pc' := 11) dX11_shipIt_10 rfl kd_353 (mm_ltm kd_353 hN) (mm_ibd_of c5) ?_
    refine me_icmp_ge (pc' := 14) (tgt := 57) dX11_shipIt_11 (by decide) rfl (fun c6 => ?_) (fun c6 => ?_)
    · refine me_aload_n (pc' := 58) (i := 0) dX11_shipIt_57 rfl rfl rfl ?_
      refine me_aload_n (pc' := 59) (i := 0) dX11_shipIt_58 rfl rfl rfl ?_
      refine me_iload_n (pc' := 60) (i := 1) dX11_shipIt_59 rfl rfl rfl ?_
      refine me_iconst (pc' := 61) (v := 0) dX11_shipIt_60 rfl kc_i0 ?_
      refine me_callV (As := [.int u1, .int 0]) (st := [.ref 352]) (F' := (mm_Sq q)) (G' := (mm_Sq q)) (F'' := (mm_Sq q)) (pc' := 64) dX11_shipIt_61 rfl mfX11_ofReservation rfl lkX11_83 kd_352 rfl (mm_ltm kd_352 hN) ⟨Nat.le_of_ble_eq_true rfl, Nat.le_of_ble_eq_true rfl⟩ (Nat.le_of_ble_eq_true rfl) (fun z => z) (rX11_ofReservation (q := q) u1 0 h4 hN) (fun x7 e8 => Or.inl ⟨_, _, rfl, fun z => z, ?_⟩)
      show mm_E2 _ _ _ _ _ [.int x7, .ref 352] h4 _ _
      refine me_bipush (pc' := 66) (v := 9) dX11_shipIt_64 rfl kc_b9 ?_
      refine me_aload_n (pc' := 67) (i := 0) dX11_shipIt_66 rfl rfl rfl ?_
      refine me_iload_n (pc' := 68) (i := 1) dX11_shipIt_67 rfl rfl rfl ?_
      refine me_callV (As := [.int u1]) (st := [.int 9, .int x7, .ref 352]) (F' := (mm_Sq q)) (G' := (mm_Sq q)) (F'' := (mm_Sq q)) (pc' := 71) dX11_shipIt_68 rfl mfX11_allocated rfl lkX11_121 kd_352 rfl (mm_ltm kd_352 hN) ⟨Nat.le_of_ble_eq_true rfl, Nat.le_of_ble_eq_true rfl⟩ (Nat.le_of_ble_eq_true rfl) (fun z => z) (rX11_allocated (q := q) u1 h4 hN) (fun x9 e10 => Or.inl ⟨_, _, rfl, fun z => z, ?_⟩)
      show mm_E2 _ _ _ _ _ [.int x9, .int 9, .int x7, .ref 352] h4 _ _
      refine me_callV (As := [.int x7, .int 9, .int x9]) (st := []) (F' := (mm_Sq q)) (G' := (mm_Sq q)) (F'' := (mm_Sq q)) (pc' := 74) dX11_shipIt_71 rfl mfX11_note rfl lkX11_115 kd_352 rfl (mm_ltm kd_352 hN) ⟨Nat.le_of_ble_eq_true rfl, Nat.le_of_ble_eq_true rfl⟩ (Nat.le_of_ble_eq_true rfl) (fun z => z) (rX11_note (q := q) x7 9 x9 h4 hN) (fun h11 e12 => Or.inl ⟨_, _, rfl, fun z => z, ?_⟩)
      show mm_E2 _ _ _ _ _ [] h11 _ _
      refine me_aload_n (pc' := 75) (i := 0) dX11_shipIt_74 rfl rfl rfl ?_
      refine me_iload_n (pc' := 76) (i := 1) dX11_shipIt_75 rfl rfl rfl ?_
      refine me_iconst (pc' := 77) (v := 3) dX11_shipIt_76 rfl kc_i3 ?_
      refine me_iconst (pc' := 78) (v := 1) dX11_shipIt_77 rfl kc_i1 ?_
      refine me_callV (As := [.int u1, .int 3, .int 1]) (st := []) (F' := (mm_Sq q)) (G' := (mm_Sq q)) (F'' := (mm_Sq q)) (pc' := 81) dX11_shipIt_78 rfl mfX11_setReservation rfl lkX11_118 kd_352 rfl (mm_ltm kd_352 hN) ⟨Nat.le_of_ble_eq_true rfl, Nat.le_of_ble_eq_true rfl⟩ (Nat.le_of_ble_eq_true rfl) (fun z => z) (rX11_setReservation (q := q) u1 3 1 h11 hN) (fun h13 e14 => Or.inl ⟨_, _, rfl, fun z => z, ?_⟩)
      show mm_E2 _ _ _ _ _ [] h13 _ _
      refine me_iload_n (pc' := 82) (i := 2) dX11_shipIt_81 rfl rfl rfl ?_
      exact me_iret dX11_shipIt_82 rfl (fun z => z) rfl
    · refine me_aload_n (pc' := 15) (i := 0) dX11_shipIt_14 rfl rfl rfl ?_
      refine me_iload_n (pc' := 16) (i := 1) dX11_shipIt_15 rfl rfl rfl ?_
      refine me_iconst (pc' := 17) (v := 4) dX11_shipIt_16 rfl kc_i4 ?_
      refine me_iload_n (pc' := 18) (i := 3) dX11_shipIt_17 rfl rfl rfl ?_
      refine me_iadd (pc' := 19) dX11_shipIt_18 rfl ?_
      refine me_callV (As := [.int u1, .int (4 + w3)]) (st := []) (F' := (mm_Sq q)) (G' := (mm_Sq q)) (F'' := (mm_Sq q)) (pc' := 22) dX11_shipIt_19 rfl mfX11_ofReservation rfl lkX11_83 kd_352 rfl (mm_ltm kd_352 hN) ⟨Nat.le_of_ble_eq_true rfl, Nat.le_of_ble_eq_true rfl⟩ (Nat.le_of_ble_eq_true rfl) (fun z => z) (rX11_ofReservation (q := q) u1 ((4 + w3)) h4 hN) (fun x15 e16 => Or.inl ⟨_, _, rfl, fun z => z, ?_⟩)
      show mm_E2 _ _ _ _ _ [.int x15] h4 _ _
      refine me_istore (pc' := 24) (i := 4) (L' := [some (.ref 352), some (.int u1), some (.int w2), some (.int w3), some (.int x15)]) dX11_shipIt_22 rfl (Nat.le_of_ble_eq_true rfl) (Nat.le_of_ble_eq_true rfl) rfl ?_
      refine me_aload_n (pc' := 25) (i := 0) dX11_shipIt_24 rfl rfl rfl ?_
      refine me_iload_n (pc' := 26) (i := 3) dX11_shipIt_25 rfl rfl rfl ?_
      refine me_iconst (pc' := 27) (v := 1) dX11_shipIt_26 rfl kc_i1 ?_
      refine me_aload_n (pc' := 28) (i := 0) dX11_shipIt_27 rfl rfl rfl ?_
      refine me_iload_n (pc' := 29) (i := 3) dX11_shipIt_28 rfl rfl rfl ?_
      refine me_iconst (pc' := 30) (v := 1) dX11_shipIt_29 rfl kc_i1 ?_
      refine me_callV (As := [.int w3, .int 1]) (st := [.int 1, .int w3, .ref 352]) (F' := (mm_Sq q)) (G' := (mm_Sq q)) (F'' := (mm_Sq q)) (pc' := 33) dX11_shipIt_30 rfl mfX11_ofBatch rfl lkX11_91 kd_352 rfl (mm_ltm kd_352 hN) ⟨Nat.le_of_ble_eq_true rfl, Nat.le_of_ble_eq_true rfl⟩ (Nat.le_of_ble_eq_true rfl) (fun z => z) (rX11_ofBatch (q := q) w3 1 h4 hN) (fun x17 e18 => Or.inl ⟨_, _, rfl, fun z => z, ?_⟩)
      show mm_E2 _ _ _ _ _ [.int x17, .int 1, .int w3, .ref 352] h4 _ _
      refine me_iload (pc' := 35) (i := 4) dX11_shipIt_33 rfl rfl ?_
      refine me_isub (pc' := 36) dX11_shipIt_35 rfl ?_
      refine me_callV (As := [.int w3, .int 1, .int (x17 - x15)]) (st := []) (F' := (mm_Sq q)) (G' := (mm_Sq q)) (F'' := (mm_Sq q)) (pc' := 39) dX11_shipIt_36 rfl mfX11_setBatch rfl lkX11_111 kd_352 rfl (mm_ltm kd_352 hN) ⟨Nat.le_of_ble_eq_true rfl, Nat.le_of_ble_eq_true rfl⟩ (Nat.le_of_ble_eq_true rfl) (fun z => z) (rX11_setBatch (q := q) w3 1 ((x17 - x15)) h4 hN) (fun h19 e20 => Or.inl ⟨_, _, rfl, fun z => z, ?_⟩)
      show mm_E2 _ _ _ _ _ [] h19 _ _
      refine me_iload_n (pc' := 40) (i := 2) dX11_shipIt_39 rfl rfl rfl ?_
      refine me_iload (pc' := 42) (i := 4) dX11_shipIt_40 rfl rfl ?_
      refine me_aload_n (pc' := 43) (i := 0) dX11_shipIt_42 rfl rfl rfl ?_
      refine me_iload_n (pc' := 44) (i := 3) dX11_shipIt_43 rfl rfl rfl ?_
      refine me_iconst (pc' := 45) (v := 3) dX11_shipIt_44 rfl kc_i3 ?_
      refine me_callV (As := [.int w3, .int 3]) (st := [.int x15, .int w2]) (F' := (mm_Sq q)) (G' := (mm_Sq q)) (F'' := (mm_Sq q)) (pc' := 48) dX11_shipIt_45 rfl mfX11_ofBatch rfl lkX11_91 kd_352 rfl (mm_ltm kd_352 hN) ⟨Nat.le_of_ble_eq_true rfl, Nat.le_of_ble_eq_true rfl⟩ (Nat.le_of_ble_eq_true rfl) (fun z => z) (rX11_ofBatch (q := q) w3 3 h19 hN) (fun x21 e22 => Or.inl ⟨_, _, rfl, fun z => z, ?_⟩)
      show mm_E2 _ _ _ _ _ [.int x21, .int x15, .int w2] h19 _ _
      refine me_imul (pc' := 49) dX11_shipIt_48 rfl ?_
      refine me_iadd (pc' := 50) dX11_shipIt_49 rfl ?_
      refine mm_bnd ((w2 + (x15 * x21))) (fun x23 => [some (.ref 352), some (.int u1), some (.int w2), some (.int w3), some (.int x15)]) (fun x23 => [.int x23]) (fun _ => h19) (fun x23 => ?_)
      refine me_istore_n (pc' := 51) (i := 2) (L' := [some (.ref 352), some (.int u1), some (.int x23), some (.int w3), some (.int x15)]) dX11_shipIt_50 rfl rfl (Nat.le_of_ble_eq_true rfl) (Nat.le_of_ble_eq_true rfl) rfl ?_
      refine me_iinc (pc' := 54) (i := 3) (x := w3) (y := w3 + 1) (L' := [some (.ref 352), some (.int u1), some (.int x23), some (.int (w3 + 1)), some (.int x15)]) dX11_shipIt_51 rfl (Nat.le_of_ble_eq_true rfl) (Nat.le_of_ble_eq_true rfl) rfl (kc_plus kc_i1) rfl ?_
      refine mm_bnd (w3 + 1) (fun x24 => [some (.ref 352), some (.int u1), some (.int x23), some (.int x24), some (.int x15)]) (fun _ => []) (fun _ => h19) (fun x24 => ?_)
      refine me_goto (tgt := 4) dX11_shipIt_54 (by decide) ?_
      exact mm_maskB [true, true, true, true, false] (ih x23 x24 h19)
theorem rX11_shipIt {q : Nat × Nat} (p0 : Int32) (h : mm_H) (hN : 358 ≤ q.1) : mm_R2 (mm_Sq q) (mm_Sq q) mX11_shipIt [.ref 352, .int p0] h (gX11_shipIt p0 h) lf_ie := by
  refine mm_body (L := [some (.ref 352), some (.int p0), none, none, none]) rfl (by decide +kernel) (Nat.le_of_ble_eq_true rfl) rfl ?_
  unfold gX11_shipIt
  refine me_iconst (pc' := 1) (v := 0) dX11_shipIt_0 rfl kc_i0 ?_
  refine me_istore_n (pc' := 2) (i := 2) (L' := [some (.ref 352), some (.int p0), some (.int 0), none, none]) dX11_shipIt_1 rfl rfl (Nat.le_of_ble_eq_true rfl) (Nat.le_of_ble_eq_true rfl) rfl ?_
  refine me_iconst (pc' := 3) (v := 0) dX11_shipIt_2 rfl kc_i0 ?_
  refine me_istore_n (pc' := 4) (i := 3) (L' := [some (.ref 352), some (.int p0), some (.int 0), some (.int 0), none]) dX11_shipIt_3 rfl rfl (Nat.le_of_ble_eq_true rfl) (Nat.le_of_ble_eq_true rfl) rfl ?_
  exact rX11_shipIt_L4 (q := q) p0 hN mm_F 0 0 h
def gX11_cancelIt (p0 : Int32) (h : mm_H) : Option (Int32 × mm_H) :=
(gX11_setReservation p0 3 2 h).bind (fun (h1 : mm_H) =>
(gX11_allocated p0 h1).bind (fun (x3 : Int32) =>
some (x3, h1)))
theorem rX11_cancelIt {q : Nat × Nat} (p0 : Int32) (h : mm_H) (hN : 358 ≤ q.1) : mm_R2 (mm_Sq q) (mm_Sq q) mX11_cancelIt [.ref 352, .int p0] h (gX11_cancelIt p0 h) lf_ie := by
  refine mm_body (L := [some (.ref 352), some (.int p0)]) rfl (by decide +kernel) (Nat.le_of_ble_eq_true rfl) rfl ?_
  unfold gX11_cancelIt
  refine me_aload_n (pc' := 1) (i := 0) dX11_cancelIt_0 rfl rfl rfl ?_
  refine me_iload_n (pc' := 2) (i := 1) dX11_cancelIt_1 rfl rfl rfl ?_
  refine me_iconst (pc' := 3) (v := 3) dX11_cancelIt_2 rfl kc_i3 ?_
  refine me_iconst (pc' := 4) (v := 2) dX11_cancelIt_3 rfl kc_i2 ?_
  refine me_callV (As := [.int p0, .int 3, .int 2]) (st := []) (F' := (mm_Sq q)) (G' := (mm_Sq q)) (F'' := (mm_Sq q)) (pc' := 7) dX11_cancelIt_4 rfl mfX11_setReservation rfl lkX11_118 kd_352 rfl (mm_ltm kd_352 hN) ⟨Nat.le_of_ble_eq_true rfl, Nat.le_of_ble_eq_true rfl⟩ (Nat.le_of_ble_eq_true rfl) (fun z => z) (rX11_setReservation (q := q) p0 3 2 h hN) (fun h1 e2 => Or.inl ⟨_, _, rfl, fun z => z, ?_⟩)
  show mm_E2 _ _ _ _ _ [] h1 _ _
  refine me_aload_n (pc' := 8) (i := 0) dX11_cancelIt_7 rfl rfl rfl ?_
  refine me_iload_n (pc' := 9) (i := 1) dX11_cancelIt_8 rfl rfl rfl ?_
  refine me_callV (As := [.int p0]) (st := []) (F' := (mm_Sq q)) (G' := (mm_Sq q)) (F'' := (mm_Sq q)) (pc' := 12) dX11_cancelIt_9 rfl mfX11_allocated rfl lkX11_121 kd_352 rfl (mm_ltm kd_352 hN) ⟨Nat.le_of_ble_eq_true rfl, Nat.le_of_ble_eq_true rfl⟩ (Nat.le_of_ble_eq_true rfl) (fun z => z) (rX11_allocated (q := q) p0 h1 hN) (fun x3 e4 => Or.inl ⟨_, _, rfl, fun z => z, ?_⟩)
  show mm_E2 _ _ _ _ _ [.int x3] h1 _ _
  exact me_iret dX11_cancelIt_12 rfl (fun z => z) rfl
def gX11_refillIt (p0 : Int32) (h : mm_H) : Option (Int32 × mm_H) :=
(gX11_ofReservation p0 2 h).bind (fun (x1 : Int32) =>
(gX11_lacking p0 h).bind (fun (x3 : Int32) =>
if mm_ibd 0 4200 = true then
if (mh_I h 353 (Int32.toNatClampNeg (0))) < x1 then
(gX11_allocate p0 x3 x1 h).bind (fun (x10 : (Int32 × mm_H)) =>
some (x10.1, x10.2))
else
if mm_ibd 0 4200 = true then
(gX11_allocate p0 x3 ((mh_I h 353 (Int32.toNatClampNeg (0)))) h).bind (fun (x8 : (Int32 × mm_H)) =>
some (x8.1, x8.2)) else none else none))
theorem rX11_refillIt {q : Nat × Nat} (p0 : Int32) (h : mm_H) (hN : 358 ≤ q.1) : mm_R2 (mm_Sq q) (mm_Sq q) mX11_refillIt [.ref 352, .int p0] h (gX11_refillIt p0 h) lf_ie := by
  refine mm_body (L := [some (.ref 352), some (.int p0), none]) rfl (by decide +kernel) (Nat.le_of_ble_eq_true rfl) rfl ?_
  unfold gX11_refillIt
  refine me_aload_n (pc' := 1) (i := 0) dX11_refillIt_0 rfl rfl rfl ?_
  refine me_iload_n (pc' := 2) (i := 1) dX11_refillIt_1 rfl rfl rfl ?_
  refine me_iconst (pc' := 3) (v := 2) dX11_refillIt_2 rfl kc_i2 ?_
  refine me_callV (As := [.int p0, .int 2]) (st := []) (F' := (mm_Sq q)) (G' := (mm_Sq q)) (F'' := (mm_Sq q)) (pc' := 6) dX11_refillIt_3 rfl mfX11_ofReservation rfl lkX11_83 kd_352 rfl (mm_ltm kd_352 hN) ⟨Nat.le_of_ble_eq_true rfl, Nat.le_of_ble_eq_true rfl⟩ (Nat.le_of_ble_eq_true rfl) (fun z => z) (rX11_ofReservation (q := q) p0 2 h hN) (fun x1 e2 => Or.inl ⟨_, _, rfl, fun z => z, ?_⟩)
  show mm_E2 _ _ _ _ _ [.int x1] h _ _
  refine me_istore_n (pc' := 7) (i := 2) (L' := [some (.ref 352), some (.int p0), some (.int x1)]) dX11_refillIt_6 rfl rfl (Nat.le_of_ble_eq_true rfl) (Nat.le_of_ble_eq_true rfl) rfl ?_
  refine me_aload_n (pc' := 8) (i := 0) dX11_refillIt_7 rfl rfl rfl ?_
  refine me_iload_n (pc' := 9) (i := 1) dX11_refillIt_8 rfl rfl rfl ?_
  refine me_aload_n (pc' := 10) (i := 0) dX11_refillIt_9 rfl rfl rfl ?_
  refine me_iload_n (pc' := 11) (i := 1) dX11_refillIt_10 rfl rfl rfl ?_
  refine me_callV (As := [.int p0]) (st := [.int p0, .ref 352]) (F' := (mm_Sq q)) (G' := (mm_Sq q)) (F'' := (mm_Sq q)) (pc' := 14) dX11_refillIt_11 rfl mfX11_lacking rfl lkX11_133 kd_352 rfl (mm_ltm kd_352 hN) ⟨Nat.le_of_ble_eq_true rfl, Nat.le_of_ble_eq_true rfl⟩ (Nat.le_of_ble_eq_true rfl) (fun z => z) (rX11_lacking (q := q) p0 h hN) (fun x3 e4 => Or.inl ⟨_, _, rfl, fun z => z, ?_⟩)
  show mm_E2 _ _ _ _ _ [.int x3, .int p0, .ref 352] h _ _
  refine me_iload_n (pc' := 15) (i := 2) dX11_refillIt_14 rfl rfl rfl ?_
  refine me_aload_n (pc' := 16) (i := 0) dX11_refillIt_15 rfl rfl rfl ?_
  refine me_getR (pc' := 19) (q' := 353) dX11_refillIt_16 rfl fkX11_13 kd_352 (mm_ltm kd_352 hN) rfl (mrX11_0 hN) ?_
  refine me_iconst (pc' := 20) (v := 0) dX11_refillIt_19 rfl kc_i0 ?_
  refine mm_guard (fun c5 => ?_)
  refine me_iald (pc' := 21) dX11_refillIt_20 rfl kd_353 (mm_ltm kd_353 hN) (mm_ibd_of c5) ?_
  refine me_icmp_le (pc' := 24) (tgt := 28) dX11_refillIt_21 (by decide) rfl (fun c6 => ?_) (fun c6 => ?_)
  · refine me_aload_n (pc' := 29) (i := 0) dX11_refillIt_28 rfl rfl rfl ?_
    refine me_getR (pc' := 32) (q' := 353) dX11_refillIt_29 rfl fkX11_13 kd_352 (mm_ltm kd_352 hN) rfl (mrX11_0 hN) ?_
    refine me_iconst (pc' := 33) (v := 0) dX11_refillIt_32 rfl kc_i0 ?_
    refine mm_guard (fun c7 => ?_)
    refine me_iald (pc' := 34) dX11_refillIt_33 rfl kd_353 (mm_ltm kd_353 hN) (mm_ibd_of c7) ?_
    refine me_callV (As := [.int p0, .int x3, .int (mh_I h 353 (Int32.toNatClampNeg (0)))]) (st := []) (F' := (mm_Sq q)) (G' := (mm_Sq q)) (F'' := (mm_Sq q)) (pc' := 37) dX11_refillIt_34 rfl mfX11_allocate rfl lkX11_136 kd_352 rfl (mm_ltm kd_352 hN) ⟨Nat.le_of_ble_eq_true rfl, Nat.le_of_ble_eq_true rfl⟩ (Nat.le_of_ble_eq_true rfl) (fun z => z) (rX11_allocate (q := q) p0 x3 ((mh_I h 353 (Int32.toNatClampNeg (0)))) h hN) (fun x8 e9 => Or.inl ⟨_, _, rfl, fun z => z, ?_⟩)
    show mm_E2 _ _ _ _ _ [.int x8.1] x8.2 _ _
    exact me_iret dX11_refillIt_37 rfl (fun z => z) rfl
  · refine me_iload_n (pc' := 25) (i := 2) dX11_refillIt_24 rfl rfl rfl ?_
    refine me_goto (tgt := 34) dX11_refillIt_25 (by decide) ?_
    refine me_callV (As := [.int p0, .int x3, .int x1]) (st := []) (F' := (mm_Sq q)) (G' := (mm_Sq q)) (F'' := (mm_Sq q)) (pc' := 37) dX11_refillIt_34 rfl mfX11_allocate rfl lkX11_136 kd_352 rfl (mm_ltm kd_352 hN) ⟨Nat.le_of_ble_eq_true rfl, Nat.le_of_ble_eq_true rfl⟩ (Nat.le_of_ble_eq_true rfl) (fun z => z) (rX11_allocate (q := q) p0 x3 x1 h hN) (fun x10 e11 => Or.inl ⟨_, _, rfl, fun z => z, ?_⟩)
    show mm_E2 _ _ _ _ _ [.int x10.1] x10.2 _ _
    exact me_iret dX11_refillIt_37 rfl (fun z => z) rfl
def gX11_countIt (p0 : Int32) (p1 : Int32) (h : mm_H) : Option (Int32 × mm_H) :=
(gX11_ofBatch p0 1 h).bind (fun (x1 : Int32) =>
(some ((p1 - x1))).bind (fun (x3 : Int32) =>
(gX11_setBatch p0 1 p1 h).bind (fun (h4 : mm_H) =>
(gX11_ofBatch p0 0 h4).bind (fun (x6 : Int32) =>
(gX11_note x6 11 x3 h4).bind (fun (h8 : mm_H) =>
some (x3, h8))))))
theorem rX11_countIt {q : Nat × Nat} (p0 : Int32) (p1 : Int32) (h : mm_H) (hN : 358 ≤ q.1) : mm_R2 (mm_Sq q) (mm_Sq q) mX11_countIt [.ref 352, .int p0, .int p1] h (gX11_countIt p0 p1 h) lf_ie := by
  refine mm_body (L := [some (.ref 352), some (.int p0), some (.int p1), none]) rfl (by decide +kernel) (Nat.le_of_ble_eq_true rfl) rfl ?_
  unfold gX11_countIt
  refine me_iload_n (pc' := 1) (i := 2) dX11_countIt_0 rfl rfl rfl ?_
  refine me_aload_n (pc' := 2) (i := 0) dX11_countIt_1 rfl rfl rfl ?_
  refine me_iload_n (pc' := 3) (i := 1) dX11_countIt_2 rfl rfl rfl ?_
  refine me_iconst (pc' := 4) (v := 1) dX11_countIt_3 rfl kc_i1 ?_
  refine me_callV (As := [.int p0, .int 1]) (st := [.int p1]) (F' := (mm_Sq q)) (G' := (mm_Sq q)) (F'' := (mm_Sq q)) (pc' := 7) dX11_countIt_4 rfl mfX11_ofBatch rfl lkX11_91 kd_352 rfl (mm_ltm kd_352 hN) ⟨Nat.le_of_ble_eq_true rfl, Nat.le_of_ble_eq_true rfl⟩ (Nat.le_of_ble_eq_true rfl) (fun z => z) (rX11_ofBatch (q := q) p0 1 h hN) (fun x1 e2 => Or.inl ⟨_, _, rfl, fun z => z, ?_⟩)
  show mm_E2 _ _ _ _ _ [.int x1, .int p1] h _ _
  refine me_isub (pc' := 8) dX11_countIt_7 rfl ?_
  refine mm_bnd ((p1 - x1)) (fun x3 => [some (.ref 352), some (.int p0), some (.int p1), none]) (fun x3 => [.int x3]) (fun _ => h) (fun x3 => ?_)
  refine me_istore_n (pc' := 9) (i := 3) (L' := [some (.ref 352), some (.int p0), some (.int p1), some (.int x3)]) dX11_countIt_8 rfl rfl (Nat.le_of_ble_eq_true rfl) (Nat.le_of_ble_eq_true rfl) rfl ?_
  refine me_aload_n (pc' := 10) (i := 0) dX11_countIt_9 rfl rfl rfl ?_
  refine me_iload_n (pc' := 11) (i := 1) dX11_countIt_10 rfl rfl rfl ?_
  refine me_iconst (pc' := 12) (v := 1) dX11_countIt_11 rfl kc_i1 ?_
  refine me_iload_n (pc' := 13) (i := 2) dX11_countIt_12 rfl rfl rfl ?_
  refine me_callV (As := [.int p0, .int 1, .int p1]) (st := []) (F' := (mm_Sq q)) (G' := (mm_Sq q)) (F'' := (mm_Sq q)) (pc' := 16) dX11_countIt_13 rfl mfX11_setBatch rfl lkX11_111 kd_352 rfl (mm_ltm kd_352 hN) ⟨Nat.le_of_ble_eq_true rfl, Nat.le_of_ble_eq_true rfl⟩ (Nat.le_of_ble_eq_true rfl) (fun z => z) (rX11_setBatch (q := q) p0 1 p1 h hN) (fun h4 e5 => Or.inl ⟨_, _, rfl, fun z => z, ?_⟩)
  show mm_E2 _ _ _ _ _ [] h4 _ _
  refine me_aload_n (pc' := 17) (i := 0) dX11_countIt_16 rfl rfl rfl ?_
  refine me_aload_n (pc' := 18) (i := 0) dX11_countIt_17 rfl rfl rfl ?_
  refine me_iload_n (pc' := 19) (i := 1) dX11_countIt_18 rfl rfl rfl ?_
  refine me_iconst (pc' := 20) (v := 0) dX11_countIt_19 rfl kc_i0 ?_
  refine me_callV (As := [.int p0, .int 0]) (st := [.ref 352]) (F' := (mm_Sq q)) (G' := (mm_Sq q)) (F'' := (mm_Sq q)) (pc' := 23) dX11_countIt_20 rfl mfX11_ofBatch rfl lkX11_91 kd_352 rfl (mm_ltm kd_352 hN) ⟨Nat.le_of_ble_eq_true rfl, Nat.le_of_ble_eq_true rfl⟩ (Nat.le_of_ble_eq_true rfl) (fun z => z) (rX11_ofBatch (q := q) p0 0 h4 hN) (fun x6 e7 => Or.inl ⟨_, _, rfl, fun z => z, ?_⟩)
  show mm_E2 _ _ _ _ _ [.int x6, .ref 352] h4 _ _
  refine me_bipush (pc' := 25) (v := 11) dX11_countIt_23 rfl kc_b11 ?_
  refine me_iload_n (pc' := 26) (i := 3) dX11_countIt_25 rfl rfl rfl ?_
  refine me_callV (As := [.int x6, .int 11, .int x3]) (st := []) (F' := (mm_Sq q)) (G' := (mm_Sq q)) (F'' := (mm_Sq q)) (pc' := 29) dX11_countIt_26 rfl mfX11_note rfl lkX11_115 kd_352 rfl (mm_ltm kd_352 hN) ⟨Nat.le_of_ble_eq_true rfl, Nat.le_of_ble_eq_true rfl⟩ (Nat.le_of_ble_eq_true rfl) (fun z => z) (rX11_note (q := q) x6 11 x3 h4 hN) (fun h8 e9 => Or.inl ⟨_, _, rfl, fun z => z, ?_⟩)
  show mm_E2 _ _ _ _ _ [] h8 _ _
  refine me_iload_n (pc' := 30) (i := 3) dX11_countIt_29 rfl rfl rfl ?_
  exact me_iret dX11_countIt_30 rfl (fun z => z) rfl
def gX11_pastBatches_L4 (h : mm_H) : Nat → Int32 → Int32 → Option Int32
  | 0, _, _ => none
  | n + 1, w1, w2 =>
    if mm_ibd 2 4200 = true then
    if w2 < (mh_I h 353 (Int32.toNatClampNeg (2))) then
    (gX11_isPast w2 h).bind (fun (x5 : Bool) =>
    mm_jn (fun (y7 : Int32) (y8 : Int32) =>
    (some ((y8 + y7))).bind (fun (x10 : Int32) =>
    (some (w2 + 1)).bind (fun (x11 : Int32) =>
    gX11_pastBatches_L4 h n x10 x11))) (fun (j9 : Int32 → Int32 → Option Int32) =>
    mm_jn (fun (y12 : Int32) =>
    j9 0 y12) (fun (j13 : Int32 → Option Int32) =>
    if x5 = true then
    (gX11_ofBatch w2 1 h).bind (fun (x15 : Int32) =>
    if 0 < x15 then
    j9 1 w1
    else
    j13 w1)
    else
    j13 w1)))
    else
    some w1 else none
def gX11_pastBatches (h : mm_H) : Option Int32 :=
gX11_pastBatches_L4 h mm_F 0 0
theorem rX11_pastBatches_L4 {q : Nat × Nat}    (h : mm_H)  (hN : 358 ≤ q.1) : ∀ (n : Nat) (w1 : Int32) (w2 : Int32), mm_E2 (mm_Sq q) (mm_Sq q) mX11_pastBatches 4 [some (.ref 352), some (.int w1), some (.int w2)] [] h (gX11_pastBatches_L4 h n w1 w2) (lf_i h) := by
  intro n
  induction n with
  | zero =>
    intro w1 w2
    exact mm_none
  | succ n ih =>
    intro w1 w2
    rw [gX11_pastBatches_L4]
    refine me_iload_n (pc' := 5) (i := 2) dX11_pastBatches_4 rfl rfl rfl ?_
    refine me_aload_n (pc' := 6) (i := 0) dX11_pastBatches_5 rfl rfl rfl ?_
    refine me_getR (pc' := 9) (q' := 353) dX11_pastBatches_6 rfl fkX11_13 kd_352 (mm_ltm kd_352 hN) rfl (mrX11_0 hN) ?_
    refine me_iconst (pc' := 10) (v := 2) dX11_pastBatches_9 rfl kc_i2 ?_
    refine mm_guard (fun c3 => ?_)
    refine me_iald (pc' := 11) dX11_pastBatches_10 rfl kd_353 (mm_ltm kd_353 hN) (mm_ibd_of c3) ?_
    refine me_icmp_ge (pc' := 14) (tgt := 45) dX11_pastBatches_11 (by decide) rfl (fun c4 => ?_) (fun c4 => ?_)
    · refine me_iload_n (pc' := 46) (i := 1) dX11_pastBatches_45 rfl rfl rfl ?_
      exact me_iret dX11_pastBatches_46 rfl (fun z => z) rfl
    · refine me_iload_n (pc' := 15) (i := 1) dX11_pastBatches_14 rfl rfl rfl ?_
      refine me_aload_n (pc' := 16) (i := 0) dX11_pastBatches_15 rfl rfl rfl ?_
      refine me_iload_n (pc' := 17) (i := 2) dX11_pastBatches_16 rfl rfl rfl ?_
      refine me_callV (As := [.int w2]) (st := [.int w1]) (F' := (mm_Sq q)) (G' := (mm_Sq q)) (F'' := (mm_Sq q)) (pc' := 20) dX11_pastBatches_17 rfl mfX11_isPast rfl lkX11_124 kd_352 rfl (mm_ltm kd_352 hN) ⟨Nat.le_of_ble_eq_true rfl, Nat.le_of_ble_eq_true rfl⟩ (Nat.le_of_ble_eq_true rfl) (fun z => z) (rX11_isPast (q := q) w2 h hN) (fun x5 e6 => Or.inl ⟨_, _, rfl, fun z => z, ?_⟩)
      show mm_E2 _ _ _ _ _ [.int (mx_bi x5), .int w1] h _ _
      refine mm_jnI (fun (j99 : Int32 → Int32 → Option Int32) => ∀ (y7 : Int32) (y8 : Int32), mm_E2 (mm_Sq q) (mm_Sq q) mX11_pastBatches 37 [some (.ref 352), none, some (.int w2)] [.int y7, .int y8] h (j99 y7 y8) (lf_i h)) ?_ (fun j9 j9p => ?_)
      · intro y7 y8
        refine me_iadd (pc' := 38) dX11_pastBatches_37 rfl ?_
        refine mm_bnd ((y8 + y7)) (fun x10 => [some (.ref 352), none, some (.int w2)]) (fun x10 => [.int x10]) (fun _ => h) (fun x10 => ?_)
        refine me_istore_n (pc' := 39) (i := 1) (L' := [some (.ref 352), some (.int x10), some (.int w2)]) dX11_pastBatches_38 rfl rfl (Nat.le_of_ble_eq_true rfl) (Nat.le_of_ble_eq_true rfl) rfl ?_
        refine me_iinc (pc' := 42) (i := 2) (x := w2) (y := w2 + 1) (L' := [some (.ref 352), some (.int x10), some (.int (w2 + 1))]) dX11_pastBatches_39 rfl (Nat.le_of_ble_eq_true rfl) (Nat.le_of_ble_eq_true rfl) rfl (kc_plus kc_i1) rfl ?_
        refine mm_bnd (w2 + 1) (fun x11 => [some (.ref 352), some (.int x10), some (.int x11)]) (fun _ => []) (fun _ => h) (fun x11 => ?_)
        refine me_goto (tgt := 4) dX11_pastBatches_42 (by decide) ?_
        exact ih x10 x11
      refine mm_jnI (fun (j139 : Int32 → Option Int32) => ∀ (y12 : Int32), mm_E2 (mm_Sq q) (mm_Sq q) mX11_pastBatches 36 [some (.ref 352), none, some (.int w2)] [.int y12] h (j139 y12) (lf_i h)) ?_ (fun j13 j13p => ?_)
      · intro y12
        refine me_iconst (pc' := 37) (v := 0) dX11_pastBatches_36 rfl kc_i0 ?_
        exact j9p 0 y12
      refine me_ifB_eq (pc' := 23) (tgt := 36) dX11_pastBatches_20 (by decide) rfl (fun c14 => ?_) (fun c14 => ?_)
      · exact mm_maskB [true, false, true] (j13p w1)
      · refine me_aload_n (pc' := 24) (i := 0) dX11_pastBatches_23 rfl rfl rfl ?_
        refine me_iload_n (pc' := 25) (i := 2) dX11_pastBatches_24 rfl rfl rfl ?_
        refine me_iconst (pc' := 26) (v := 1) dX11_pastBatches_25 rfl kc_i1 ?_
        refine me_callV (As := [.int w2, .int 1]) (st := [.int w1]) (F' := (mm_Sq q)) (G' := (mm_Sq q)) (F'' := (mm_Sq q)) (pc' := 29) dX11_pastBatches_26 rfl mfX11_ofBatch rfl lkX11_91 kd_352 rfl (mm_ltm kd_352 hN) ⟨Nat.le_of_ble_eq_true rfl, Nat.le_of_ble_eq_true rfl⟩ (Nat.le_of_ble_eq_true rfl) (fun z => z) (rX11_ofBatch (q := q) w2 1 h hN) (fun x15 e16 => Or.inl ⟨_, _, rfl, fun z => z, ?_⟩)
        show mm_E2 _ _ _ _ _ [.int x15, .int w1] h _ _
        refine me_if_le (pc' := 32) (tgt := 36) dX11_pastBatches_29 (by decide) rfl (fun c17 => ?_) (fun c17 => ?_)
        · exact mm_maskB [true, false, true] (j13p w1)
        · refine me_iconst (pc' := 33) (v := 1) dX11_pastBatches_32 rfl kc_i1 ?_
          refine me_goto (tgt := 37) dX11_pastBatches_33 (by decide) ?_
          exact mm_maskB [true, false, true] (j9p 1 w1)
theorem rX11_pastBatches {q : Nat × Nat} (h : mm_H) (hN : 358 ≤ q.1) : mm_R2 (mm_Sq q) (mm_Sq q) mX11_pastBatches [.ref 352] h (gX11_pastBatches h) (lf_i h) := by
  refine mm_body (L := [some (.ref 352), none, none]) rfl (by decide +kernel) (Nat.le_of_ble_eq_true rfl) rfl ?_
  unfold gX11_pastBatches
  refine me_iconst (pc' := 1) (v := 0) dX11_pastBatches_0 rfl kc_i0 ?_
  refine me_istore_n (pc' := 2) (i := 1) (L' := [some (.ref 352), some (.int 0), none]) dX11_pastBatches_1 rfl rfl (Nat.le_of_ble_eq_true rfl) (Nat.le_of_ble_eq_true rfl) rfl ?_
  refine me_iconst (pc' := 3) (v := 0) dX11_pastBatches_2 rfl kc_i0 ?_
  refine me_istore_n (pc' := 4) (i := 2) (L' := [some (.ref 352), some (.int 0), some (.int 0)]) dX11_pastBatches_3 rfl rfl (Nat.le_of_ble_eq_true rfl) (Nat.le_of_ble_eq_true rfl) rfl ?_
  exact rX11_pastBatches_L4 (q := q) h hN mm_F 0 0
def gX11_daysIt (p0 : Int32) (h : mm_H) : Option (Int32 × mm_H) :=
(gX11_pastBatches h).bind (fun (x1 : Int32) =>
if mm_ibd 0 4200 = true then
if mm_ibd 0 4200 = true then
(some (ms_I h 353 (Int32.toNatClampNeg (0)) (((mh_I h 353 (Int32.toNatClampNeg (0))) + p0)))).bind (fun (h5 : mm_H) =>
(gX11_pastBatches h5).bind (fun (x6 : Int32) =>
some ((x6 - x1), h5))) else none else none)
theorem rX11_daysIt {q : Nat × Nat} (p0 : Int32) (h : mm_H) (hN : 358 ≤ q.1) : mm_R2 (mm_Sq q) (mm_Sq q) mX11_daysIt [.ref 352, .int p0] h (gX11_daysIt p0 h) lf_ie := by
  refine mm_body (L := [some (.ref 352), some (.int p0), none]) rfl (by decide +kernel) (Nat.le_of_ble_eq_true rfl) rfl ?_
  unfold gX11_daysIt
  refine me_aload_n (pc' := 1) (i := 0) dX11_daysIt_0 rfl rfl rfl ?_
  refine me_callV (As := []) (st := []) (F' := (mm_Sq q)) (G' := (mm_Sq q)) (F'' := (mm_Sq q)) (pc' := 4) dX11_daysIt_1 rfl mfX11_pastBatches rfl lkX11_140 kd_352 rfl (mm_ltm kd_352 hN) ⟨Nat.le_of_ble_eq_true rfl, Nat.le_of_ble_eq_true rfl⟩ (Nat.le_of_ble_eq_true rfl) (fun z => z) (rX11_pastBatches (q := q) h hN) (fun x1 e2 => Or.inl ⟨_, _, rfl, fun z => z, ?_⟩)
  show mm_E2 _ _ _ _ _ [.int x1] h _ _
  refine me_istore_n (pc' := 5) (i := 2) (L' := [some (.ref 352), some (.int p0), some (.int x1)]) dX11_daysIt_4 rfl rfl (Nat.le_of_ble_eq_true rfl) (Nat.le_of_ble_eq_true rfl) rfl ?_
  refine me_aload_n (pc' := 6) (i := 0) dX11_daysIt_5 rfl rfl rfl ?_
  refine me_getR (pc' := 9) (q' := 353) dX11_daysIt_6 rfl fkX11_13 kd_352 (mm_ltm kd_352 hN) rfl (mrX11_0 hN) ?_
  refine me_iconst (pc' := 10) (v := 0) dX11_daysIt_9 rfl kc_i0 ?_
  refine me_dup2 (pc' := 11) dX11_daysIt_10 rfl rfl rfl ?_
  refine mm_guard (fun c3 => ?_)
  refine me_iald (pc' := 12) dX11_daysIt_11 rfl kd_353 (mm_ltm kd_353 hN) (mm_ibd_of c3) ?_
  refine me_iload_n (pc' := 13) (i := 1) dX11_daysIt_12 rfl rfl rfl ?_
  refine me_iadd (pc' := 14) dX11_daysIt_13 rfl ?_
  refine mm_guard (fun c4 => ?_)
  refine me_iast (F' := (mm_Sq q)) (pc' := 15) dX11_daysIt_14 rfl kd_353 (mm_ltm kd_353 hN) (mm_ibd_of c4) (fun z => z) ?_
  refine mm_bnd (ms_I h 353 (Int32.toNatClampNeg (0)) (((mh_I h 353 (Int32.toNatClampNeg (0))) + p0))) (fun _ => [some (.ref 352), some (.int p0), some (.int x1)]) (fun _ => []) (fun h5 => h5) (fun h5 => ?_)
  refine me_aload_n (pc' := 16) (i := 0) dX11_daysIt_15 rfl rfl rfl ?_
  refine me_callV (As := []) (st := []) (F' := (mm_Sq q)) (G' := (mm_Sq q)) (F'' := (mm_Sq q)) (pc' := 19) dX11_daysIt_16 rfl mfX11_pastBatches rfl lkX11_140 kd_352 rfl (mm_ltm kd_352 hN) ⟨Nat.le_of_ble_eq_true rfl, Nat.le_of_ble_eq_true rfl⟩ (Nat.le_of_ble_eq_true rfl) (fun z => z) (rX11_pastBatches (q := q) h5 hN) (fun x6 e7 => Or.inl ⟨_, _, rfl, fun z => z, ?_⟩)
  show mm_E2 _ _ _ _ _ [.int x6] h5 _ _
  refine me_iload_n (pc' := 20) (i := 2) dX11_daysIt_19 rfl rfl rfl ?_
  refine me_isub (pc' := 21) dX11_daysIt_20 rfl ?_
  exact me_iret dX11_daysIt_21 rfl (fun z => z) rfl
def gX11_canIssue (p0 : Int32) (p1 : Int32) (h : mm_H) : Option Bool :=
if mm_ibd 0 4200 = true then
(gX11_available p0 ((mh_I h 353 (Int32.toNatClampNeg (0)))) h).bind (fun (x2 : Int32) =>
if x2 < p1 then
some false
else
some true) else none
theorem rX11_canIssue {q : Nat × Nat} (p0 : Int32) (p1 : Int32) (h : mm_H) (hN : 358 ≤ q.1) : mm_R2 (mm_Sq q) (mm_Sq q) mX11_canIssue [.ref 352, .int p0, .int p1] h (gX11_canIssue p0 p1 h) (lf_z h) := by
  refine mm_body (L := [some (.ref 352), some (.int p0), some (.int p1)]) rfl (by decide +kernel) (Nat.le_of_ble_eq_true rfl) rfl ?_
  unfold gX11_canIssue
  refine me_aload_n (pc' := 1) (i := 0) dX11_canIssue_0 rfl rfl rfl ?_
  refine me_iload_n (pc' := 2) (i := 1) dX11_canIssue_1 rfl rfl rfl ?_
  refine me_aload_n (pc' := 3) (i := 0) dX11_canIssue_2 rfl rfl rfl ?_
  refine me_getR (pc' := 6) (q' := 353) dX11_canIssue_3 rfl fkX11_13 kd_352 (mm_ltm kd_352 hN) rfl (mrX11_0 hN) ?_
  refine me_iconst (pc' := 7) (v := 0) dX11_canIssue_6 rfl kc_i0 ?_
  refine mm_guard (fun c1 => ?_)
  refine me_iald (pc' := 8) dX11_canIssue_7 rfl kd_353 (mm_ltm kd_353 hN) (mm_ibd_of c1) ?_
  refine me_callV (As := [.int p0, .int (mh_I h 353 (Int32.toNatClampNeg (0)))]) (st := []) (F' := (mm_Sq q)) (G' := (mm_Sq q)) (F'' := (mm_Sq q)) (pc' := 11) dX11_canIssue_8 rfl mfX11_available rfl lkX11_130 kd_352 rfl (mm_ltm kd_352 hN) ⟨Nat.le_of_ble_eq_true rfl, Nat.le_of_ble_eq_true rfl⟩ (Nat.le_of_ble_eq_true rfl) (fun z => z) (rX11_available (q := q) p0 ((mh_I h 353 (Int32.toNatClampNeg (0)))) h hN) (fun x2 e3 => Or.inl ⟨_, _, rfl, fun z => z, ?_⟩)
  show mm_E2 _ _ _ _ _ [.int x2] h _ _
  refine me_iload_n (pc' := 12) (i := 2) dX11_canIssue_11 rfl rfl rfl ?_
  refine me_icmp_lt (pc' := 15) (tgt := 19) dX11_canIssue_12 (by decide) rfl (fun c4 => ?_) (fun c4 => ?_)
  · refine me_iconst (pc' := 20) (v := 0) dX11_canIssue_19 rfl kc_i0 ?_
    exact me_zret (b := false) dX11_canIssue_20 rfl (fun z => z) rfl
  · refine me_iconst (pc' := 16) (v := 1) dX11_canIssue_15 rfl kc_i1 ?_
    refine me_goto (tgt := 20) dX11_canIssue_16 (by decide) ?_
    exact me_zret (b := true) dX11_canIssue_20 rfl (fun z => z) rfl
def gX11_canReserve (p0 : Int32) (p1 : Int32) (p2 : Int32) (h : mm_H) : Option Bool :=
if mm_ibd 3 4200 = true then
if (mh_I h 353 (Int32.toNatClampNeg (3))) < 10 then
(gX11_available p0 p2 h).bind (fun (x3 : Int32) =>
if x3 < p1 then
some false
else
some true)
else
some false else none
theorem rX11_canReserve {q : Nat × Nat} (p0 : Int32) (p1 : Int32) (p2 : Int32) (h : mm_H) (hN : 358 ≤ q.1) : mm_R2 (mm_Sq q) (mm_Sq q) mX11_canReserve [.ref 352, .int p0, .int p1, .int p2] h (gX11_canReserve p0 p1 p2 h) (lf_z h) := by
  refine mm_body (L := [some (.ref 352), some (.int p0), some (.int p1), some (.int p2)]) rfl (by decide +kernel) (Nat.le_of_ble_eq_true rfl) rfl ?_
  unfold gX11_canReserve
  refine me_aload_n (pc' := 1) (i := 0) dX11_canReserve_0 rfl rfl rfl ?_
  refine me_getR (pc' := 4) (q' := 353) dX11_canReserve_1 rfl fkX11_13 kd_352 (mm_ltm kd_352 hN) rfl (mrX11_0 hN) ?_
  refine me_iconst (pc' := 5) (v := 3) dX11_canReserve_4 rfl kc_i3 ?_
  refine mm_guard (fun c1 => ?_)
  refine me_iald (pc' := 6) dX11_canReserve_5 rfl kd_353 (mm_ltm kd_353 hN) (mm_ibd_of c1) ?_
  refine me_bipush (pc' := 8) (v := 10) dX11_canReserve_6 rfl kc_b10 ?_
  refine me_icmp_ge (pc' := 11) (tgt := 25) dX11_canReserve_8 (by decide) rfl (fun c2 => ?_) (fun c2 => ?_)
  · refine me_iconst (pc' := 26) (v := 0) dX11_canReserve_25 rfl kc_i0 ?_
    exact me_zret (b := false) dX11_canReserve_26 rfl (fun z => z) rfl
  · refine me_aload_n (pc' := 12) (i := 0) dX11_canReserve_11 rfl rfl rfl ?_
    refine me_iload_n (pc' := 13) (i := 1) dX11_canReserve_12 rfl rfl rfl ?_
    refine me_iload_n (pc' := 14) (i := 3) dX11_canReserve_13 rfl rfl rfl ?_
    refine me_callV (As := [.int p0, .int p2]) (st := []) (F' := (mm_Sq q)) (G' := (mm_Sq q)) (F'' := (mm_Sq q)) (pc' := 17) dX11_canReserve_14 rfl mfX11_available rfl lkX11_130 kd_352 rfl (mm_ltm kd_352 hN) ⟨Nat.le_of_ble_eq_true rfl, Nat.le_of_ble_eq_true rfl⟩ (Nat.le_of_ble_eq_true rfl) (fun z => z) (rX11_available (q := q) p0 p2 h hN) (fun x3 e4 => Or.inl ⟨_, _, rfl, fun z => z, ?_⟩)
    show mm_E2 _ _ _ _ _ [.int x3] h _ _
    refine me_iload_n (pc' := 18) (i := 2) dX11_canReserve_17 rfl rfl rfl ?_
    refine me_icmp_lt (pc' := 21) (tgt := 25) dX11_canReserve_18 (by decide) rfl (fun c5 => ?_) (fun c5 => ?_)
    · refine me_iconst (pc' := 26) (v := 0) dX11_canReserve_25 rfl kc_i0 ?_
      exact me_zret (b := false) dX11_canReserve_26 rfl (fun z => z) rfl
    · refine me_iconst (pc' := 22) (v := 1) dX11_canReserve_21 rfl kc_i1 ?_
      refine me_goto (tgt := 26) dX11_canReserve_22 (by decide) ?_
      exact me_zret (b := true) dX11_canReserve_26 rfl (fun z => z) rfl
def gX11_isBatchData (p0 : Int32) (p1 : Int32) (p2 : Int32) (h : mm_H) : Option Bool :=
(gX11_in p0 1 999 h).bind (fun (x1 : Bool) =>
if x1 = true then
(gX11_in p1 0 9999 h).bind (fun (x4 : Bool) =>
if x4 = true then
(gX11_in p2 1 999 h).bind (fun (x7 : Bool) =>
if x7 = true then
some true
else
some false)
else
some false)
else
some false)
theorem rX11_isBatchData {q : Nat × Nat} (p0 : Int32) (p1 : Int32) (p2 : Int32) (h : mm_H) (hN : 358 ≤ q.1) : mm_R2 (mm_Sq q) (mm_Sq q) mX11_isBatchData [.int p0, .int p1, .int p2] h (gX11_isBatchData p0 p1 p2 h) (lf_z h) := by
  refine mm_body (L := [some (.int p0), some (.int p1), some (.int p2)]) rfl (by decide +kernel) (Nat.le_of_ble_eq_true rfl) rfl ?_
  unfold gX11_isBatchData
  refine me_iload_n (pc' := 1) (i := 0) dX11_isBatchData_0 rfl rfl rfl ?_
  refine me_iconst (pc' := 2) (v := 1) dX11_isBatchData_1 rfl kc_i1 ?_
  refine me_sipush (pc' := 5) (v := 999) dX11_isBatchData_2 rfl kc_s999 ?_
  refine me_callS (As := [.int p0, .int 1, .int 999]) (st := []) (F' := (mm_Sq q)) (G' := (mm_Sq q)) (F'' := (mm_Sq q)) (pc' := 8) dX11_isBatchData_5 rfl mfX11_in rfl lkX11_75 ⟨Nat.le_of_ble_eq_true rfl, Nat.le_of_ble_eq_true rfl⟩ (Nat.le_of_ble_eq_true rfl) (fun z => z) (rX11_in (q := q) p0 1 999 h hN) (fun x1 e2 => Or.inl ⟨_, _, rfl, fun z => z, ?_⟩)
  show mm_E2 _ _ _ _ _ [.int (mx_bi x1)] h _ _
  refine me_ifB_eq (pc' := 11) (tgt := 37) dX11_isBatchData_8 (by decide) rfl (fun c3 => ?_) (fun c3 => ?_)
  · refine me_iconst (pc' := 38) (v := 0) dX11_isBatchData_37 rfl kc_i0 ?_
    exact me_zret (b := false) dX11_isBatchData_38 rfl (fun z => z) rfl
  · refine me_iload_n (pc' := 12) (i := 1) dX11_isBatchData_11 rfl rfl rfl ?_
    refine me_iconst (pc' := 13) (v := 0) dX11_isBatchData_12 rfl kc_i0 ?_
    refine me_sipush (pc' := 16) (v := 9999) dX11_isBatchData_13 rfl kc_s9999 ?_
    refine me_callS (As := [.int p1, .int 0, .int 9999]) (st := []) (F' := (mm_Sq q)) (G' := (mm_Sq q)) (F'' := (mm_Sq q)) (pc' := 19) dX11_isBatchData_16 rfl mfX11_in rfl lkX11_75 ⟨Nat.le_of_ble_eq_true rfl, Nat.le_of_ble_eq_true rfl⟩ (Nat.le_of_ble_eq_true rfl) (fun z => z) (rX11_in (q := q) p1 0 9999 h hN) (fun x4 e5 => Or.inl ⟨_, _, rfl, fun z => z, ?_⟩)
    show mm_E2 _ _ _ _ _ [.int (mx_bi x4)] h _ _
    refine me_ifB_eq (pc' := 22) (tgt := 37) dX11_isBatchData_19 (by decide) rfl (fun c6 => ?_) (fun c6 => ?_)
    · refine me_iconst (pc' := 38) (v := 0) dX11_isBatchData_37 rfl kc_i0 ?_
      exact me_zret (b := false) dX11_isBatchData_38 rfl (fun z => z) rfl
    · refine me_iload_n (pc' := 23) (i := 2) dX11_isBatchData_22 rfl rfl rfl ?_
      refine me_iconst (pc' := 24) (v := 1) dX11_isBatchData_23 rfl kc_i1 ?_
      refine me_sipush (pc' := 27) (v := 999) dX11_isBatchData_24 rfl kc_s999 ?_
      refine me_callS (As := [.int p2, .int 1, .int 999]) (st := []) (F' := (mm_Sq q)) (G' := (mm_Sq q)) (F'' := (mm_Sq q)) (pc' := 30) dX11_isBatchData_27 rfl mfX11_in rfl lkX11_75 ⟨Nat.le_of_ble_eq_true rfl, Nat.le_of_ble_eq_true rfl⟩ (Nat.le_of_ble_eq_true rfl) (fun z => z) (rX11_in (q := q) p2 1 999 h hN) (fun x7 e8 => Or.inl ⟨_, _, rfl, fun z => z, ?_⟩)
      show mm_E2 _ _ _ _ _ [.int (mx_bi x7)] h _ _
      refine me_ifB_eq (pc' := 33) (tgt := 37) dX11_isBatchData_30 (by decide) rfl (fun c9 => ?_) (fun c9 => ?_)
      · refine me_iconst (pc' := 38) (v := 0) dX11_isBatchData_37 rfl kc_i0 ?_
        exact me_zret (b := false) dX11_isBatchData_38 rfl (fun z => z) rfl
      · refine me_iconst (pc' := 34) (v := 1) dX11_isBatchData_33 rfl kc_i1 ?_
        refine me_goto (tgt := 38) dX11_isBatchData_34 (by decide) ?_
        exact me_zret (b := true) dX11_isBatchData_38 rfl (fun z => z) rfl
def gX11_appendWord_L3 (u1 : Int32) : Nat → Int32 → mm_H → Option mm_H
  | 0, _, _ => none
  | n + 1, w2, h3 =>
    if w2 < 0 then
    some h3
    else
    if mm_ibd ((mh_I h3 352 4)) 600 = true then
    (some (ms_I h3 355 (Int32.toNatClampNeg ((mh_I h3 352 4))) (((u1 >>> (w2 &&& 31)) &&& 255)))).bind (fun (h6 : mm_H) =>
    (some (ms_I h6 352 4 (((mh_I h6 352 4) + 1)))).bind (fun (h7 : mm_H) =>
    (some (w2 + (-8))).bind (fun (x8 : Int32) =>
    gX11_appendWord_L3 u1 n x8 h7))) else none
def gX11_appendWord (p0 : Int32) (h : mm_H) : Option mm_H :=
gX11_appendWord_L3 p0 mm_F 24 h
theorem rX11_appendWord_L3 {q : Nat × Nat}  (u1 : Int32)    (hN : 358 ≤ q.1) : ∀ (n : Nat) (w2 : Int32) (h3 : mm_H), mm_E2 (mm_Sq q) (mm_Sq q) mX11_appendWord 3 [some (.ref 352), some (.int u1), some (.int w2)] [] h3 (gX11_appendWord_L3 u1  n w2 h3) lf_v := by
  intro n
  induction n with
  | zero =>
    intro w2 h3
    exact mm_none
  | succ n ih =>
    intro w2 h3
    rw [gX11_appendWord_L3]
    refine me_iload_n (pc' := 4) (i := 2) dX11_appendWord_3 rfl rfl rfl ?_
    refine me_if_lt (pc' := 7) (tgt := 39) dX11_appendWord_4 (by decide) rfl (fun c4 => ?_) (fun c4 => ?_)
    · exact me_vret dX11_appendWord_39 rfl (fun z => z) rfl
    · refine me_aload_n (pc' := 8) (i := 0) dX11_appendWord_7 rfl rfl rfl ?_
      refine me_getR (pc' := 11) (q' := 355) dX11_appendWord_8 rfl fkX11_24 kd_352 (mm_ltm kd_352 hN) rfl (mrX11_3 hN) ?_
      refine me_aload_n (pc' := 12) (i := 0) dX11_appendWord_11 rfl rfl rfl ?_
      refine me_getI (pc' := 15) dX11_appendWord_12 rfl fkX11_27 kd_352 (mm_ltm kd_352 hN) rfl ?_
      refine me_iload_n (pc' := 16) (i := 1) dX11_appendWord_15 rfl rfl rfl ?_
      refine me_iload_n (pc' := 17) (i := 2) dX11_appendWord_16 rfl rfl rfl ?_
      refine me_ishr (pc' := 18) dX11_appendWord_17 rfl ?_
      refine me_sipush (pc' := 21) (v := 255) dX11_appendWord_18 rfl kc_s255 ?_
      refine me_iand (pc' := 22) dX11_appendWord_21 rfl ?_
      refine mm_guard (fun c5 => ?_)
      refine me_iast (F' := (mm_Sq q)) (pc' := 23) dX11_appendWord_22 rfl kd_355 (mm_ltm kd_355 hN) (mm_ibd_of c5) (fun z => z) ?_
      refine mm_bnd (ms_I h3 355 (Int32.toNatClampNeg ((mh_I h3 352 4))) (((u1 >>> (w2 &&& 31)) &&& 255))) (fun _ => [some (.ref 352), some (.int u1), some (.int w2)]) (fun _ => []) (fun h6 => h6) (fun h6 => ?_)
      refine me_aload_n (pc' := 24) (i := 0) dX11_appendWord_23 rfl rfl rfl ?_
      refine me_dup (pc' := 25) dX11_appendWord_24 rfl rfl ?_
      refine me_getI (pc' := 28) dX11_appendWord_25 rfl fkX11_27 kd_352 (mm_ltm kd_352 hN) rfl ?_
      refine me_iconst (pc' := 29) (v := 1) dX11_appendWord_28 rfl kc_i1 ?_
      refine me_iadd (pc' := 30) dX11_appendWord_29 rfl ?_
      refine me_putI (F' := (mm_Sq q)) (pc' := 33) dX11_appendWord_30 rfl fkX11_27 kd_352 (mm_ltm kd_352 hN) rfl pgX11_4 (fun z => z) ?_
      refine mm_bnd (ms_I h6 352 4 (((mh_I h6 352 4) + 1))) (fun _ => [some (.ref 352), some (.int u1), some (.int w2)]) (fun _ => []) (fun h7 => h7) (fun h7 => ?_)
      refine me_iinc (pc' := 36) (i := 2) (x := w2) (y := w2 + (-8)) (L' := [some (.ref 352), some (.int u1), some (.int (w2 + (-8)))]) dX11_appendWord_33 rfl (Nat.le_of_ble_eq_true rfl) (Nat.le_of_ble_eq_true rfl) rfl (kc_plus kc_im8) rfl ?_
      refine mm_bnd (w2 + (-8)) (fun x8 => [some (.ref 352), some (.int u1), some (.int x8)]) (fun _ => []) (fun _ => h7) (fun x8 => ?_)
      refine me_goto (tgt := 3) dX11_appendWord_36 (by decide) ?_
      exact ih x8 h7
theorem rX11_appendWord {q : Nat × Nat} (p0 : Int32) (h : mm_H) (hN : 358 ≤ q.1) : mm_R2 (mm_Sq q) (mm_Sq q) mX11_appendWord [.ref 352, .int p0] h (gX11_appendWord p0 h) lf_v := by
  refine mm_body (L := [some (.ref 352), some (.int p0), none]) rfl (by decide +kernel) (Nat.le_of_ble_eq_true rfl) rfl ?_
  unfold gX11_appendWord
  refine me_bipush (pc' := 2) (v := 24) dX11_appendWord_0 rfl kc_b24 ?_
  refine me_istore_n (pc' := 3) (i := 2) (L' := [some (.ref 352), some (.int p0), some (.int 24)]) dX11_appendWord_2 rfl rfl (Nat.le_of_ble_eq_true rfl) (Nat.le_of_ble_eq_true rfl) rfl ?_
  exact rX11_appendWord_L3 (q := q) p0 hN mm_F 24 h
def gX11_append (p0 : Int32) (p1 : Int32) (p2 : Int32) (p3 : Int32) (p4 : Int32) (h : mm_H) : Option (Int32 × mm_H) :=
mm_jn (fun (y1 : Int32) =>
(gX11_fails y1 0 0 h).bind (fun (x4 : (Bool × mm_H)) =>
if x4.1 = true then
some (0, x4.2)
else
(gX11_appendWord p0 x4.2).bind (fun (h7 : mm_H) =>
(gX11_appendWord p1 h7).bind (fun (h9 : mm_H) =>
(gX11_appendWord p2 h9).bind (fun (h11 : mm_H) =>
(gX11_appendWord p3 h11).bind (fun (h13 : mm_H) =>
(gX11_appendWord p4 h13).bind (fun (h15 : mm_H) =>
some ((mh_I h15 352 4), h15)))))))) (fun (j3 : Int32 → Option (Int32 × mm_H)) =>
if 600 < ((mh_I h 352 4) + 20) then
j3 1
else
j3 0)
theorem rX11_append {q : Nat × Nat} (p0 : Int32) (p1 : Int32) (p2 : Int32) (p3 : Int32) (p4 : Int32) (h : mm_H) (hN : 358 ≤ q.1) : mm_R2 (mm_Sq q) (mm_Sq q) mX11_append [.ref 352, .int p0, .int p1, .int p2, .int p3, .int p4] h (gX11_append p0 p1 p2 p3 p4 h) lf_ie := by
  refine mm_body (L := [some (.ref 352), some (.int p0), some (.int p1), some (.int p2), some (.int p3), some (.int p4)]) rfl (by decide +kernel) (Nat.le_of_ble_eq_true rfl) rfl ?_
  unfold gX11_append
  refine me_aload_n (pc' := 1) (i := 0) dX11_append_0 rfl rfl rfl ?_
  refine me_aload_n (pc' := 2) (i := 0) dX11_append_1 rfl rfl rfl ?_
  refine me_getI (pc' := 5) dX11_append_2 rfl fkX11_27 kd_352 (mm_ltm kd_352 hN) rfl ?_
  refine me_bipush (pc' := 7) (v := 20) dX11_append_5 rfl kc_b20 ?_
  refine me_iadd (pc' := 8) dX11_append_7 rfl ?_
  refine me_sipush (pc' := 11) (v := 600) dX11_append_8 rfl kc_s600 ?_
  refine mm_jnI (fun (j39 : Int32 → Option (Int32 × mm_H)) => ∀ (y1 : Int32), mm_E2 (mm_Sq q) (mm_Sq q) mX11_append 19 [some (.ref 352), some (.int p0), some (.int p1), some (.int p2), some (.int p3), some (.int p4)] [.int y1, .ref 352] h (j39 y1) lf_ie) ?_ (fun j3 j3p => ?_)
  · intro y1
    refine me_iconst (pc' := 20) (v := 0) dX11_append_19 rfl kc_i0 ?_
    refine me_iconst (pc' := 21) (v := 0) dX11_append_20 rfl kc_i0 ?_
    refine me_callV (As := [.int y1, .int 0, .int 0]) (st := []) (F' := (mm_Sq q)) (G' := (mm_Sq q)) (F'' := (mm_Sq q)) (pc' := 24) dX11_append_21 rfl mfX11_fails rfl lkX11_143 kd_352 rfl (mm_ltm kd_352 hN) ⟨Nat.le_of_ble_eq_true rfl, Nat.le_of_ble_eq_true rfl⟩ (Nat.le_of_ble_eq_true rfl) (fun z => z) (rX11_fails (q := q) y1 0 0 h hN) (fun x4 e5 => Or.inl ⟨_, _, rfl, fun z => z, ?_⟩)
    show mm_E2 _ _ _ _ _ [.int (mx_bi x4.1)] x4.2 _ _
    refine me_ifB_eq (pc' := 27) (tgt := 29) dX11_append_24 (by decide) rfl (fun c6 => ?_) (fun c6 => ?_)
    · refine me_aload_n (pc' := 30) (i := 0) dX11_append_29 rfl rfl rfl ?_
      refine me_iload_n (pc' := 31) (i := 1) dX11_append_30 rfl rfl rfl ?_
      refine me_callV (As := [.int p0]) (st := []) (F' := (mm_Sq q)) (G' := (mm_Sq q)) (F'' := (mm_Sq q)) (pc' := 34) dX11_append_31 rfl mfX11_appendWord rfl lkX11_147 kd_352 rfl (mm_ltm kd_352 hN) ⟨Nat.le_of_ble_eq_true rfl, Nat.le_of_ble_eq_true rfl⟩ (Nat.le_of_ble_eq_true rfl) (fun z => z) (rX11_appendWord (q := q) p0 x4.2 hN) (fun h7 e8 => Or.inl ⟨_, _, rfl, fun z => z, ?_⟩)
      show mm_E2 _ _ _ _ _ [] h7 _ _
      refine me_aload_n (pc' := 35) (i := 0) dX11_append_34 rfl rfl rfl ?_
      refine me_iload_n (pc' := 36) (i := 2) dX11_append_35 rfl rfl rfl ?_
      refine me_callV (As := [.int p1]) (st := []) (F' := (mm_Sq q)) (G' := (mm_Sq q)) (F'' := (mm_Sq q)) (pc' := 39) dX11_append_36 rfl mfX11_appendWord rfl lkX11_147 kd_352 rfl (mm_ltm kd_352 hN) ⟨Nat.le_of_ble_eq_true rfl, Nat.le_of_ble_eq_true rfl⟩ (Nat.le_of_ble_eq_true rfl) (fun z => z) (rX11_appendWord (q := q) p1 h7 hN) (fun h9 e10 => Or.inl ⟨_, _, rfl, fun z => z, ?_⟩)
      show mm_E2 _ _ _ _ _ [] h9 _ _
      refine me_aload_n (pc' := 40) (i := 0) dX11_append_39 rfl rfl rfl ?_
      refine me_iload_n (pc' := 41) (i := 3) dX11_append_40 rfl rfl rfl ?_
      refine me_callV (As := [.int p2]) (st := []) (F' := (mm_Sq q)) (G' := (mm_Sq q)) (F'' := (mm_Sq q)) (pc' := 44) dX11_append_41 rfl mfX11_appendWord rfl lkX11_147 kd_352 rfl (mm_ltm kd_352 hN) ⟨Nat.le_of_ble_eq_true rfl, Nat.le_of_ble_eq_true rfl⟩ (Nat.le_of_ble_eq_true rfl) (fun z => z) (rX11_appendWord (q := q) p2 h9 hN) (fun h11 e12 => Or.inl ⟨_, _, rfl, fun z => z, ?_⟩)
      show mm_E2 _ _ _ _ _ [] h11 _ _
      refine me_aload_n (pc' := 45) (i := 0) dX11_append_44 rfl rfl rfl ?_
      refine me_iload (pc' := 47) (i := 4) dX11_append_45 rfl rfl ?_
      refine me_callV (As := [.int p3]) (st := []) (F' := (mm_Sq q)) (G' := (mm_Sq q)) (F'' := (mm_Sq q)) (pc' := 50) dX11_append_47 rfl mfX11_appendWord rfl lkX11_147 kd_352 rfl (mm_ltm kd_352 hN) ⟨Nat.le_of_ble_eq_true rfl, Nat.le_of_ble_eq_true rfl⟩ (Nat.le_of_ble_eq_true rfl) (fun z => z) (rX11_appendWord (q := q) p3 h11 hN) (fun h13 e14 => Or.inl ⟨_, _, rfl, fun z => z, ?_⟩)
      show mm_E2 _ _ _ _ _ [] h13 _ _
      refine me_aload_n (pc' := 51) (i := 0) dX11_append_50 rfl rfl rfl ?_
      refine me_iload (pc' := 53) (i := 5) dX11_append_51 rfl rfl ?_
      refine me_callV (As := [.int p4]) (st := []) (F' := (mm_Sq q)) (G' := (mm_Sq q)) (F'' := (mm_Sq q)) (pc' := 56) dX11_append_53 rfl mfX11_appendWord rfl lkX11_147 kd_352 rfl (mm_ltm kd_352 hN) ⟨Nat.le_of_ble_eq_true rfl, Nat.le_of_ble_eq_true rfl⟩ (Nat.le_of_ble_eq_true rfl) (fun z => z) (rX11_appendWord (q := q) p4 h13 hN) (fun h15 e16 => Or.inl ⟨_, _, rfl, fun z => z, ?_⟩)
      show mm_E2 _ _ _ _ _ [] h15 _ _
      refine me_aload_n (pc' := 57) (i := 0) dX11_append_56 rfl rfl rfl ?_
      refine me_getI (pc' := 60) dX11_append_57 rfl fkX11_27 kd_352 (mm_ltm kd_352 hN) rfl ?_
      exact me_iret dX11_append_60 rfl (fun z => z) rfl
    · refine me_iconst (pc' := 28) (v := 0) dX11_append_27 rfl kc_i0 ?_
      exact me_iret dX11_append_28 rfl (fun z => z) rfl
  refine me_icmp_le (pc' := 14) (tgt := 18) dX11_append_11 (by decide) rfl (fun c17 => ?_) (fun c17 => ?_)
  · refine me_iconst (pc' := 19) (v := 0) dX11_append_18 rfl kc_i0 ?_
    exact j3p 0
  · refine me_iconst (pc' := 15) (v := 1) dX11_append_14 rfl kc_i1 ?_
    refine me_goto (tgt := 19) dX11_append_15 (by decide) ?_
    exact j3p 1
def gX11_truncate (p0 : Int32) (h : mm_H) : Option (Int32 × mm_H) :=
(gX11_in p0 0 ((mh_I h 352 4)) h).bind (fun (x1 : Bool) =>
mm_jn (fun (y3 : Int32) =>
(gX11_fails y3 0 0 h).bind (fun (x6 : (Bool × mm_H)) =>
if x6.1 = true then
some (0, x6.2)
else
(some (ms_I x6.2 352 4 p0)).bind (fun (h9 : mm_H) =>
some (p0, h9)))) (fun (j5 : Int32 → Option (Int32 × mm_H)) =>
if x1 = true then
j5 0
else
j5 1))
theorem rX11_truncate {q : Nat × Nat} (p0 : Int32) (h : mm_H) (hN : 358 ≤ q.1) : mm_R2 (mm_Sq q) (mm_Sq q) mX11_truncate [.ref 352, .int p0] h (gX11_truncate p0 h) lf_ie := by
  refine mm_body (L := [some (.ref 352), some (.int p0)]) rfl (by decide +kernel) (Nat.le_of_ble_eq_true rfl) rfl ?_
  unfold gX11_truncate
  refine me_aload_n (pc' := 1) (i := 0) dX11_truncate_0 rfl rfl rfl ?_
  refine me_iload_n (pc' := 2) (i := 1) dX11_truncate_1 rfl rfl rfl ?_
  refine me_iconst (pc' := 3) (v := 0) dX11_truncate_2 rfl kc_i0 ?_
  refine me_aload_n (pc' := 4) (i := 0) dX11_truncate_3 rfl rfl rfl ?_
  refine me_getI (pc' := 7) dX11_truncate_4 rfl fkX11_27 kd_352 (mm_ltm kd_352 hN) rfl ?_
  refine me_callS (As := [.int p0, .int 0, .int (mh_I h 352 4)]) (st := [.ref 352]) (F' := (mm_Sq q)) (G' := (mm_Sq q)) (F'' := (mm_Sq q)) (pc' := 10) dX11_truncate_7 rfl mfX11_in rfl lkX11_75 ⟨Nat.le_of_ble_eq_true rfl, Nat.le_of_ble_eq_true rfl⟩ (Nat.le_of_ble_eq_true rfl) (fun z => z) (rX11_in (q := q) p0 0 ((mh_I h 352 4)) h hN) (fun x1 e2 => Or.inl ⟨_, _, rfl, fun z => z, ?_⟩)
  show mm_E2 _ _ _ _ _ [.int (mx_bi x1), .ref 352] h _ _
  refine mm_jnI (fun (j59 : Int32 → Option (Int32 × mm_H)) => ∀ (y3 : Int32), mm_E2 (mm_Sq q) (mm_Sq q) mX11_truncate 18 [some (.ref 352), some (.int p0)] [.int y3, .ref 352] h (j59 y3) lf_ie) ?_ (fun j5 j5p => ?_)
  · intro y3
    refine me_iconst (pc' := 19) (v := 0) dX11_truncate_18 rfl kc_i0 ?_
    refine me_iconst (pc' := 20) (v := 0) dX11_truncate_19 rfl kc_i0 ?_
    refine me_callV (As := [.int y3, .int 0, .int 0]) (st := []) (F' := (mm_Sq q)) (G' := (mm_Sq q)) (F'' := (mm_Sq q)) (pc' := 23) dX11_truncate_20 rfl mfX11_fails rfl lkX11_143 kd_352 rfl (mm_ltm kd_352 hN) ⟨Nat.le_of_ble_eq_true rfl, Nat.le_of_ble_eq_true rfl⟩ (Nat.le_of_ble_eq_true rfl) (fun z => z) (rX11_fails (q := q) y3 0 0 h hN) (fun x6 e7 => Or.inl ⟨_, _, rfl, fun z => z, ?_⟩)
    show mm_E2 _ _ _ _ _ [.int (mx_bi x6.1)] x6.2 _ _
    refine me_ifB_eq (pc' := 26) (tgt := 28) dX11_truncate_23 (by decide) rfl (fun c8 => ?_) (fun c8 => ?_)
    · refine me_aload_n (pc' := 29) (i := 0) dX11_truncate_28 rfl rfl rfl ?_
      refine me_iload_n (pc' := 30) (i := 1) dX11_truncate_29 rfl rfl rfl ?_
      refine me_putI (F' := (mm_Sq q)) (pc' := 33) dX11_truncate_30 rfl fkX11_27 kd_352 (mm_ltm kd_352 hN) rfl pgX11_4 (fun z => z) ?_
      refine mm_bnd (ms_I x6.2 352 4 p0) (fun _ => [some (.ref 352), some (.int p0)]) (fun _ => []) (fun h9 => h9) (fun h9 => ?_)
      refine me_iload_n (pc' := 34) (i := 1) dX11_truncate_33 rfl rfl rfl ?_
      exact me_iret dX11_truncate_34 rfl (fun z => z) rfl
    · refine me_iconst (pc' := 27) (v := 0) dX11_truncate_26 rfl kc_i0 ?_
      exact me_iret dX11_truncate_27 rfl (fun z => z) rfl
  refine me_ifB_ne (pc' := 13) (tgt := 17) dX11_truncate_10 (by decide) rfl (fun c10 => ?_) (fun c10 => ?_)
  · refine me_iconst (pc' := 18) (v := 0) dX11_truncate_17 rfl kc_i0 ?_
    exact j5p 0
  · refine me_iconst (pc' := 14) (v := 1) dX11_truncate_13 rfl kc_i1 ?_
    refine me_goto (tgt := 18) dX11_truncate_14 (by decide) ?_
    exact j5p 1
def gX11_load (h : mm_H) : Option (Int32 × mm_H) :=
(gX11_copyBlock 0 9 h).bind (fun (h1 : mm_H) =>
(gX11_begin h1).bind (fun (h3 : mm_H) =>
(gX11_parseSetup h3).bind (fun (x5 : (Bool × mm_H)) =>
(some (ms_I x5.2 352 4 0)).bind (fun (h7 : mm_H) =>
mm_jn (fun (h8 : mm_H) =>
mm_jn (fun (y10 : Int32) =>
(gX11_fails y10 0 0 h8).bind (fun (x13 : (Bool × mm_H)) =>
if x13.1 = true then
some (0, x13.2)
else
(some (ms_I x13.2 352 2 0)).bind (fun (h16 : mm_H) =>
if mm_ibd 0 2 = true then
(some (ms_I h16 354 (Int32.toNatClampNeg (0)) 0)).bind (fun (h18 : mm_H) =>
if mm_ibd 1 2 = true then
(some (ms_I h18 354 (Int32.toNatClampNeg (1)) 0)).bind (fun (h20 : mm_H) =>
if mm_ibd 1 4200 = true then
some ((mh_I h20 353 (Int32.toNatClampNeg (1))), h20) else none) else none) else none))) (fun (j12 : Int32 → Option (Int32 × mm_H)) =>
if x5.1 = true then
j12 0
else
j12 1)) (fun (j9 : mm_H → Option (Int32 × mm_H)) =>
if x5.1 = true then
j9 h7
else
(gX11_copyBlock 9 0 h7).bind (fun (h24 : mm_H) =>
j9 h24))))))
theorem rX11_load {q : Nat × Nat} (h : mm_H) (hN : 358 ≤ q.1) : mm_R2 (mm_Sq q) (mm_Sq q) mX11_load [.ref 352] h (gX11_load h) lf_ie := by
  refine mm_body (L := [some (.ref 352), none]) rfl (by decide +kernel) (Nat.le_of_ble_eq_true rfl) rfl ?_
  unfold gX11_load
  refine me_aload_n (pc' := 1) (i := 0) dX11_load_0 rfl rfl rfl ?_
  refine me_iconst (pc' := 2) (v := 0) dX11_load_1 rfl kc_i0 ?_
  refine me_bipush (pc' := 4) (v := 9) dX11_load_2 rfl kc_b9 ?_
  refine me_callV (As := [.int 0, .int 9]) (st := []) (F' := (mm_Sq q)) (G' := (mm_Sq q)) (F'' := (mm_Sq q)) (pc' := 7) dX11_load_4 rfl mfX11_copyBlock rfl lkX11_79 kd_352 rfl (mm_ltm kd_352 hN) ⟨Nat.le_of_ble_eq_true rfl, Nat.le_of_ble_eq_true rfl⟩ (Nat.le_of_ble_eq_true rfl) (fun z => z) (rX11_copyBlock (q := q) 0 9 h hN) (fun h1 e2 => Or.inl ⟨_, _, rfl, fun z => z, ?_⟩)
  show mm_E2 _ _ _ _ _ [] h1 _ _
  refine me_aload_n (pc' := 8) (i := 0) dX11_load_7 rfl rfl rfl ?_
  refine me_callV (As := []) (st := []) (F' := (mm_Sq q)) (G' := (mm_Sq q)) (F'' := (mm_Sq q)) (pc' := 11) dX11_load_8 rfl mfX11_begin rfl lkX11_68 kd_352 rfl (mm_ltm kd_352 hN) ⟨Nat.le_of_ble_eq_true rfl, Nat.le_of_ble_eq_true rfl⟩ (Nat.le_of_ble_eq_true rfl) (fun z => z) (rX11_begin (q := q) h1 hN) (fun h3 e4 => Or.inl ⟨_, _, rfl, fun z => z, ?_⟩)
  show mm_E2 _ _ _ _ _ [] h3 _ _
  refine me_aload_n (pc' := 12) (i := 0) dX11_load_11 rfl rfl rfl ?_
  refine me_callV (As := []) (st := []) (F' := (mm_Sq q)) (G' := (mm_Sq q)) (F'' := (mm_Sq q)) (pc' := 15) dX11_load_12 rfl mfX11_parseSetup rfl lkX11_71 kd_352 rfl (mm_ltm kd_352 hN) ⟨Nat.le_of_ble_eq_true rfl, Nat.le_of_ble_eq_true rfl⟩ (Nat.le_of_ble_eq_true rfl) (fun z => z) (rX11_parseSetup (q := q) h3 hN) (fun x5 e6 => Or.inl ⟨_, _, rfl, fun z => z, ?_⟩)
  show mm_E2 _ _ _ _ _ [.int (mx_bi x5.1)] x5.2 _ _
  refine me_istore_n (pc' := 16) (i := 1) (L' := [some (.ref 352), some (.int (mx_bi x5.1))]) dX11_load_15 rfl rfl (Nat.le_of_ble_eq_true rfl) (Nat.le_of_ble_eq_true rfl) rfl ?_
  refine me_aload_n (pc' := 17) (i := 0) dX11_load_16 rfl rfl rfl ?_
  refine me_iconst (pc' := 18) (v := 0) dX11_load_17 rfl kc_i0 ?_
  refine me_putI (F' := (mm_Sq q)) (pc' := 21) dX11_load_18 rfl fkX11_27 kd_352 (mm_ltm kd_352 hN) rfl pgX11_4 (fun z => z) ?_
  refine mm_bnd (ms_I x5.2 352 4 0) (fun _ => [some (.ref 352), some (.int (mx_bi x5.1))]) (fun _ => []) (fun h7 => h7) (fun h7 => ?_)
  refine me_iload_n (pc' := 22) (i := 1) dX11_load_21 rfl rfl rfl ?_
  refine mm_jnI (fun (j99 : mm_H → Option (Int32 × mm_H)) => ∀ (h8 : mm_H), mm_E2 (mm_Sq q) (mm_Sq q) mX11_load 32 [some (.ref 352), some (.int (mx_bi x5.1))] [] h8 (j99 h8) lf_ie) ?_ (fun j9 j9p => ?_)
  · intro h8
    refine me_aload_n (pc' := 33) (i := 0) dX11_load_32 rfl rfl rfl ?_
    refine me_iload_n (pc' := 34) (i := 1) dX11_load_33 rfl rfl rfl ?_
    refine mm_jnI (fun (j129 : Int32 → Option (Int32 × mm_H)) => ∀ (y10 : Int32), mm_E2 (mm_Sq q) (mm_Sq q) mX11_load 42 [some (.ref 352), none] [.int y10, .ref 352] h8 (j129 y10) lf_ie) ?_ (fun j12 j12p => ?_)
    · intro y10
      refine me_iconst (pc' := 43) (v := 0) dX11_load_42 rfl kc_i0 ?_
      refine me_iconst (pc' := 44) (v := 0) dX11_load_43 rfl kc_i0 ?_
      refine me_callV (As := [.int y10, .int 0, .int 0]) (st := []) (F' := (mm_Sq q)) (G' := (mm_Sq q)) (F'' := (mm_Sq q)) (pc' := 47) dX11_load_44 rfl mfX11_fails rfl lkX11_143 kd_352 rfl (mm_ltm kd_352 hN) ⟨Nat.le_of_ble_eq_true rfl, Nat.le_of_ble_eq_true rfl⟩ (Nat.le_of_ble_eq_true rfl) (fun z => z) (rX11_fails (q := q) y10 0 0 h8 hN) (fun x13 e14 => Or.inl ⟨_, _, rfl, fun z => z, ?_⟩)
      show mm_E2 _ _ _ _ _ [.int (mx_bi x13.1)] x13.2 _ _
      refine me_ifB_eq (pc' := 50) (tgt := 52) dX11_load_47 (by decide) rfl (fun c15 => ?_) (fun c15 => ?_)
      · refine me_aload_n (pc' := 53) (i := 0) dX11_load_52 rfl rfl rfl ?_
        refine me_iconst (pc' := 54) (v := 0) dX11_load_53 rfl kc_i0 ?_
        refine me_putI (F' := (mm_Sq q)) (pc' := 57) dX11_load_54 rfl fkX11_21 kd_352 (mm_ltm kd_352 hN) rfl pgX11_2 (fun z => z) ?_
        refine mm_bnd (ms_I x13.2 352 2 0) (fun _ => [some (.ref 352), none]) (fun _ => []) (fun h16 => h16) (fun h16 => ?_)
        refine me_aload_n (pc' := 58) (i := 0) dX11_load_57 rfl rfl rfl ?_
        refine me_getR (pc' := 61) (q' := 354) dX11_load_58 rfl fkX11_17 kd_352 (mm_ltm kd_352 hN) rfl (mrX11_1 hN) ?_
        refine me_iconst (pc' := 62) (v := 0) dX11_load_61 rfl kc_i0 ?_
        refine me_iconst (pc' := 63) (v := 0) dX11_load_62 rfl kc_i0 ?_
        refine mm_guard (fun c17 => ?_)
        refine me_zast (F' := (mm_Sq q)) (pc' := 64) (w := 0) dX11_load_63 rfl kd_354 (mm_ltm kd_354 hN) (mm_ibd_of c17) rfl (fun z => z) ?_
        refine mm_bnd (ms_I h16 354 (Int32.toNatClampNeg (0)) 0) (fun _ => [some (.ref 352), none]) (fun _ => []) (fun h18 => h18) (fun h18 => ?_)
        refine me_aload_n (pc' := 65) (i := 0) dX11_load_64 rfl rfl rfl ?_
        refine me_getR (pc' := 68) (q' := 354) dX11_load_65 rfl fkX11_17 kd_352 (mm_ltm kd_352 hN) rfl (mrX11_1 hN) ?_
        refine me_iconst (pc' := 69) (v := 1) dX11_load_68 rfl kc_i1 ?_
        refine me_iconst (pc' := 70) (v := 0) dX11_load_69 rfl kc_i0 ?_
        refine mm_guard (fun c19 => ?_)
        refine me_zast (F' := (mm_Sq q)) (pc' := 71) (w := 0) dX11_load_70 rfl kd_354 (mm_ltm kd_354 hN) (mm_ibd_of c19) rfl (fun z => z) ?_
        refine mm_bnd (ms_I h18 354 (Int32.toNatClampNeg (1)) 0) (fun _ => [some (.ref 352), none]) (fun _ => []) (fun h20 => h20) (fun h20 => ?_)
        refine me_aload_n (pc' := 72) (i := 0) dX11_load_71 rfl rfl rfl ?_
        refine me_getR (pc' := 75) (q' := 353) dX11_load_72 rfl fkX11_13 kd_352 (mm_ltm kd_352 hN) rfl (mrX11_0 hN) ?_
        refine me_iconst (pc' := 76) (v := 1) dX11_load_75 rfl kc_i1 ?_
        refine mm_guard (fun c21 => ?_)
        refine me_iald (pc' := 77) dX11_load_76 rfl kd_353 (mm_ltm kd_353 hN) (mm_ibd_of c21) ?_
        exact me_iret dX11_load_77 rfl (fun z => z) rfl
      · refine me_iconst (pc' := 51) (v := 0) dX11_load_50 rfl kc_i0 ?_
        exact me_iret dX11_load_51 rfl (fun z => z) rfl
    refine me_ifB_ne (pc' := 37) (tgt := 41) dX11_load_34 (by decide) rfl (fun c22 => ?_) (fun c22 => ?_)
    · refine me_iconst (pc' := 42) (v := 0) dX11_load_41 rfl kc_i0 ?_
      exact mm_maskB [true, false] (j12p 0)
    · refine me_iconst (pc' := 38) (v := 1) dX11_load_37 rfl kc_i1 ?_
      refine me_goto (tgt := 42) dX11_load_38 (by decide) ?_
      exact mm_maskB [true, false] (j12p 1)
  refine me_ifB_ne (pc' := 25) (tgt := 32) dX11_load_22 (by decide) rfl (fun c23 => ?_) (fun c23 => ?_)
  · exact j9p h7
  · refine me_aload_n (pc' := 26) (i := 0) dX11_load_25 rfl rfl rfl ?_
    refine me_bipush (pc' := 28) (v := 9) dX11_load_26 rfl kc_b9 ?_
    refine me_iconst (pc' := 29) (v := 0) dX11_load_28 rfl kc_i0 ?_
    refine me_callV (As := [.int 9, .int 0]) (st := []) (F' := (mm_Sq q)) (G' := (mm_Sq q)) (F'' := (mm_Sq q)) (pc' := 32) dX11_load_29 rfl mfX11_copyBlock rfl lkX11_79 kd_352 rfl (mm_ltm kd_352 hN) ⟨Nat.le_of_ble_eq_true rfl, Nat.le_of_ble_eq_true rfl⟩ (Nat.le_of_ble_eq_true rfl) (fun z => z) (rX11_copyBlock (q := q) 9 0 h7 hN) (fun h24 e25 => Or.inl ⟨_, _, rfl, fun z => z, ?_⟩)
    show mm_E2 _ _ _ _ _ [] h24 _ _
    exact j9p h24
def gX11_nameOf (p0 : Int32) (h : mm_H) : Option Nat :=
if p0 = 0 then
some 34
else
if p0 = 1 then
some 35
else
if p0 = 2 then
some 36
else
if p0 = 3 then
some 37
else
if p0 = 4 then
some 38
else
if p0 = 5 then
some 39
else
if p0 = 6 then
some 40
else
if p0 = 7 then
some 41
else
some 42
theorem rX11_nameOf {q : Nat × Nat} (p0 : Int32) (h : mm_H) (hN : 358 ≤ q.1) : mm_R2 (mm_Sq q) (mm_Sq q) mX11_nameOf [.int p0] h (gX11_nameOf p0 h) (lf_s h) := by
  refine mm_body (L := [some (.int p0)]) rfl (by decide +kernel) (Nat.le_of_ble_eq_true rfl) rfl ?_
  unfold gX11_nameOf
  refine me_iload_n (pc' := 1) (i := 0) dX11_nameOf_0 rfl rfl rfl ?_
  refine mm_if (fun c1 => ?_) (fun c1 => ?_)
  · refine me_tsw c1 dX11_nameOf_1 (by decide) (by decide) (tgt := 48) (off := 47) (by decide) (by decide) ?_
    refine me_ldc (pc' := 50) (q := 395) dX11_nameOf_48 rfl (sr_34) rfl ?_
    exact me_aret dX11_nameOf_50 rfl (fun z => z) rfl
  refine mm_if (fun c2 => ?_) (fun c2 => ?_)
  · refine me_tsw c2 dX11_nameOf_1 (by decide) (by decide) (tgt := 51) (off := 50) (by decide) (by decide) ?_
    refine me_ldc (pc' := 53) (q := 396) dX11_nameOf_51 rfl (sr_35) rfl ?_
    exact me_aret dX11_nameOf_53 rfl (fun z => z) rfl
  refine mm_if (fun c3 => ?_) (fun c3 => ?_)
  · refine me_tsw c3 dX11_nameOf_1 (by decide) (by decide) (tgt := 54) (off := 53) (by decide) (by decide) ?_
    refine me_ldc (pc' := 56) (q := 397) dX11_nameOf_54 rfl (sr_36) rfl ?_
    exact me_aret dX11_nameOf_56 rfl (fun z => z) rfl
  refine mm_if (fun c4 => ?_) (fun c4 => ?_)
  · refine me_tsw c4 dX11_nameOf_1 (by decide) (by decide) (tgt := 57) (off := 56) (by decide) (by decide) ?_
    refine me_ldc (pc' := 59) (q := 398) dX11_nameOf_57 rfl (sr_37) rfl ?_
    exact me_aret dX11_nameOf_59 rfl (fun z => z) rfl
  refine mm_if (fun c5 => ?_) (fun c5 => ?_)
  · refine me_tsw c5 dX11_nameOf_1 (by decide) (by decide) (tgt := 60) (off := 59) (by decide) (by decide) ?_
    refine me_ldc (pc' := 62) (q := 399) dX11_nameOf_60 rfl (sr_38) rfl ?_
    exact me_aret dX11_nameOf_62 rfl (fun z => z) rfl
  refine mm_if (fun c6 => ?_) (fun c6 => ?_)
  · refine me_tsw c6 dX11_nameOf_1 (by decide) (by decide) (tgt := 63) (off := 62) (by decide) (by decide) ?_
    refine me_ldc (pc' := 65) (q := 400) dX11_nameOf_63 rfl (sr_39) rfl ?_
    exact me_aret dX11_nameOf_65 rfl (fun z => z) rfl
  refine mm_if (fun c7 => ?_) (fun c7 => ?_)
  · refine me_tsw c7 dX11_nameOf_1 (by decide) (by decide) (tgt := 66) (off := 65) (by decide) (by decide) ?_
    refine me_ldc (pc' := 68) (q := 401) dX11_nameOf_66 rfl (sr_40) rfl ?_
    exact me_aret dX11_nameOf_68 rfl (fun z => z) rfl
  refine mm_if (fun c8 => ?_) (fun c8 => ?_)
  · refine me_tsw c8 dX11_nameOf_1 (by decide) (by decide) (tgt := 69) (off := 68) (by decide) (by decide) ?_
    refine me_ldc (pc' := 71) (q := 402) dX11_nameOf_69 rfl (sr_41) rfl ?_
    exact me_aret dX11_nameOf_71 rfl (fun z => z) rfl
  refine me_tableOut (tgt := 72) dX11_nameOf_1 (mm_out7 c1 c2 c3 c4 c5 c6 c7 c8) (by decide) ?_
  refine me_ldc (pc' := 74) (q := 403) dX11_nameOf_72 rfl (sr_42) rfl ?_
  exact me_aret dX11_nameOf_74 rfl (fun z => z) rfl
def gX11_commandHere_L2 (h : mm_H) : Nat → Int32 → Option Int32
  | 0, _ => none
  | n + 1, w1 =>
    if 8 < w1 then
    some (-1)
    else
    (gX11_nameOf w1 h).bind (fun (x3 : Nat) =>
    if x3 < 43 then
    (gX11_isWord x3 h).bind (fun (x6 : Bool) =>
    if x6 = true then
    some w1
    else
    (some (w1 + 1)).bind (fun (x9 : Int32) =>
    gX11_commandHere_L2 h n x9)) else none)
def gX11_commandHere (h : mm_H) : Option Int32 :=
gX11_commandHere_L2 h mm_F 0
theorem rX11_commandHere_L2 {q : Nat × Nat}    (h : mm_H)  (hN : 358 ≤ q.1) : ∀ (n : Nat) (w1 : Int32), mm_E2 (mm_Sq q) (mm_Sq q) mX11_commandHere 2 [some (.ref 352), some (.int w1)] [] h (gX11_commandHere_L2 h n w1) (lf_i h) := by
  intro n
  induction n with
  | zero =>
    intro w1
    exact mm_none
  | succ n ih =>
    intro w1
    rw [gX11_commandHere_L2]
    refine me_iload_n (pc' := 3) (i := 1) dX11_commandHere_2 rfl rfl rfl ?_
    refine me_bipush (pc' := 5) (v := 8) dX11_commandHere_3 rfl kc_b8 ?_
    refine me_icmp_gt (pc' := 8) (tgt := 27) dX11_commandHere_5 (by decide) rfl (fun c2 => ?_) (fun c2 => ?_)
    · refine me_iconst (pc' := 28) (v := (-1)) dX11_commandHere_27 rfl kc_im1 ?_
      exact me_iret dX11_commandHere_28 rfl (fun z => z) rfl
    · refine me_aload_n (pc' := 9) (i := 0) dX11_commandHere_8 rfl rfl rfl ?_
      refine me_iload_n (pc' := 10) (i := 1) dX11_commandHere_9 rfl rfl rfl ?_
      refine me_callS (As := [.int w1]) (st := [.ref 352]) (F' := (mm_Sq q)) (G' := (mm_Sq q)) (F'' := (mm_Sq q)) (pc' := 13) dX11_commandHere_10 rfl mfX11_nameOf rfl lkX11_213 ⟨Nat.le_of_ble_eq_true rfl, Nat.le_of_ble_eq_true rfl⟩ (Nat.le_of_ble_eq_true rfl) (fun z => z) (rX11_nameOf (q := q) w1 h hN) (fun x3 e4 => Or.inl ⟨_, _, rfl, fun z => z, ?_⟩)
      show mm_E2 _ _ _ _ _ [.ref (361 + x3), .ref 352] h _ _
      refine mm_guard (fun c5 => ?_)
      refine me_callV (As := [.ref (361 + x3)]) (st := []) (F' := (mm_Sq q)) (G' := (mm_Sq q)) (F'' := (mm_Sq q)) (pc' := 16) dX11_commandHere_13 rfl mfX11_isWord rfl lkX11_181 kd_352 rfl (mm_ltm kd_352 hN) ⟨Nat.le_of_ble_eq_true rfl, Nat.le_of_ble_eq_true rfl⟩ (Nat.le_of_ble_eq_true rfl) (fun z => z) (rX11_isWord (q := q) x3 h c5 hN) (fun x6 e7 => Or.inl ⟨_, _, rfl, fun z => z, ?_⟩)
      show mm_E2 _ _ _ _ _ [.int (mx_bi x6)] h _ _
      refine me_ifB_eq (pc' := 19) (tgt := 21) dX11_commandHere_16 (by decide) rfl (fun c8 => ?_) (fun c8 => ?_)
      · refine me_iinc (pc' := 24) (i := 1) (x := w1) (y := w1 + 1) (L' := [some (.ref 352), some (.int (w1 + 1))]) dX11_commandHere_21 rfl (Nat.le_of_ble_eq_true rfl) (Nat.le_of_ble_eq_true rfl) rfl (kc_plus kc_i1) rfl ?_
        refine mm_bnd (w1 + 1) (fun x9 => [some (.ref 352), some (.int x9)]) (fun _ => []) (fun _ => h) (fun x9 => ?_)
        refine me_goto (tgt := 2) dX11_commandHere_24 (by decide) ?_
        exact ih x9
      · refine me_iload_n (pc' := 20) (i := 1) dX11_commandHere_19 rfl rfl rfl ?_
        exact me_iret dX11_commandHere_20 rfl (fun z => z) rfl
theorem rX11_commandHere {q : Nat × Nat} (h : mm_H) (hN : 358 ≤ q.1) : mm_R2 (mm_Sq q) (mm_Sq q) mX11_commandHere [.ref 352] h (gX11_commandHere h) (lf_i h) := by
  refine mm_body (L := [some (.ref 352), none]) rfl (by decide +kernel) (Nat.le_of_ble_eq_true rfl) rfl ?_
  unfold gX11_commandHere
  refine me_iconst (pc' := 1) (v := 0) dX11_commandHere_0 rfl kc_i0 ?_
  refine me_istore_n (pc' := 2) (i := 1) (L' := [some (.ref 352), some (.int 0)]) dX11_commandHere_1 rfl rfl (Nat.le_of_ble_eq_true rfl) (Nat.le_of_ble_eq_true rfl) rfl ?_
  exact rX11_commandHere_L2 (q := q) h hN mm_F 0
def gX11_parseNumbers_L2 (u1 : Int32) (u2 : Int32) : Nat → Int32 → mm_H → Option (Bool × mm_H)
  | 0, _, _ => none
  | n + 1, w3, h4 =>
    if w3 < u2 then
    if (mh_I h4 352 11) = 2 then
    if mm_ibd ((u1 + w3)) 150 = true then
    (some (ms_I h4 357 (Int32.toNatClampNeg ((u1 + w3))) ((mh_I h4 352 13)))).bind (fun (h8 : mm_H) =>
    (gX11_token h8).bind (fun (h9 : mm_H) =>
    (some (w3 + 1)).bind (fun (x11 : Int32) =>
    gX11_parseNumbers_L2 u1 u2 n x11 h9))) else none
    else
    (gX11_wrong 1 h4).bind (fun (x12 : (Bool × mm_H)) =>
    some (x12.1, x12.2))
    else
    some (true, h4)
def gX11_parseNumbers (p0 : Int32) (p1 : Int32) (h : mm_H) : Option (Bool × mm_H) :=
gX11_parseNumbers_L2 p0 p1 mm_F 0 h
theorem rX11_parseNumbers_L2 {q : Nat × Nat}  (u1 : Int32) (u2 : Int32)    (hN : 358 ≤ q.1) : ∀ (n : Nat) (w3 : Int32) (h4 : mm_H), mm_E2 (mm_Sq q) (mm_Sq q) mX11_parseNumbers 2 [some (.ref 352), some (.int u1), some (.int u2), some (.int w3)] [] h4 (gX11_parseNumbers_L2 u1 u2  n w3 h4) lf_ze := by
  intro n
  induction n with
  | zero =>
    intro w3 h4
    exact mm_none
  | succ n ih =>
    intro w3 h4
    rw [gX11_parseNumbers_L2]
    refine me_iload_n (pc' := 3) (i := 3) dX11_parseNumbers_2 rfl rfl rfl ?_
    refine me_iload_n (pc' := 4) (i := 2) dX11_parseNumbers_3 rfl rfl rfl ?_
    refine me_icmp_ge (pc' := 7) (tgt := 43) dX11_parseNumbers_4 (by decide) rfl (fun c5 => ?_) (fun c5 => ?_)
    · refine me_iconst (pc' := 44) (v := 1) dX11_parseNumbers_43 rfl kc_i1 ?_
      exact me_zret (b := true) dX11_parseNumbers_44 rfl (fun z => z) rfl
    · refine me_aload_n (pc' := 8) (i := 0) dX11_parseNumbers_7 rfl rfl rfl ?_
      refine me_getI (pc' := 11) dX11_parseNumbers_8 rfl fkX11_45 kd_352 (mm_ltm kd_352 hN) rfl ?_
      refine me_iconst (pc' := 12) (v := 2) dX11_parseNumbers_11 rfl kc_i2 ?_
      refine me_icmp_eq (pc' := 15) (tgt := 21) dX11_parseNumbers_12 (by decide) rfl (fun c6 => ?_) (fun c6 => ?_)
      · refine me_aload_n (pc' := 22) (i := 0) dX11_parseNumbers_21 rfl rfl rfl ?_
        refine me_getR (pc' := 25) (q' := 357) dX11_parseNumbers_22 rfl fkX11_54 kd_352 (mm_ltm kd_352 hN) rfl (mrX11_14 hN) ?_
        refine me_iload_n (pc' := 26) (i := 1) dX11_parseNumbers_25 rfl rfl rfl ?_
        refine me_iload_n (pc' := 27) (i := 3) dX11_parseNumbers_26 rfl rfl rfl ?_
        refine me_iadd (pc' := 28) dX11_parseNumbers_27 rfl ?_
        refine me_aload_n (pc' := 29) (i := 0) dX11_parseNumbers_28 rfl rfl rfl ?_
        refine me_getI (pc' := 32) dX11_parseNumbers_29 rfl fkX11_51 kd_352 (mm_ltm kd_352 hN) rfl ?_
        refine mm_guard (fun c7 => ?_)
        refine me_iast (F' := (mm_Sq q)) (pc' := 33) dX11_parseNumbers_32 rfl kd_357 (mm_ltm kd_357 hN) (mm_ibd_of c7) (fun z => z) ?_
        refine mm_bnd (ms_I h4 357 (Int32.toNatClampNeg ((u1 + w3))) ((mh_I h4 352 13))) (fun _ => [some (.ref 352), some (.int u1), some (.int u2), some (.int w3)]) (fun _ => []) (fun h8 => h8) (fun h8 => ?_)
        refine me_aload_n (pc' := 34) (i := 0) dX11_parseNumbers_33 rfl rfl rfl ?_
        refine me_callV (As := []) (st := []) (F' := (mm_Sq q)) (G' := (mm_Sq q)) (F'' := (mm_Sq q)) (pc' := 37) dX11_parseNumbers_34 rfl mfX11_token rfl lkX11_157 kd_352 rfl (mm_ltm kd_352 hN) ⟨Nat.le_of_ble_eq_true rfl, Nat.le_of_ble_eq_true rfl⟩ (Nat.le_of_ble_eq_true rfl) (fun z => z) (rX11_token (q := q) h8 hN) (fun h9 e10 => Or.inl ⟨_, _, rfl, fun z => z, ?_⟩)
        show mm_E2 _ _ _ _ _ [] h9 _ _
        refine me_iinc (pc' := 40) (i := 3) (x := w3) (y := w3 + 1) (L' := [some (.ref 352), some (.int u1), some (.int u2), some (.int (w3 + 1))]) dX11_parseNumbers_37 rfl (Nat.le_of_ble_eq_true rfl) (Nat.le_of_ble_eq_true rfl) rfl (kc_plus kc_i1) rfl ?_
        refine mm_bnd (w3 + 1) (fun x11 => [some (.ref 352), some (.int u1), some (.int u2), some (.int x11)]) (fun _ => []) (fun _ => h9) (fun x11 => ?_)
        refine me_goto (tgt := 2) dX11_parseNumbers_40 (by decide) ?_
        exact ih x11 h9
      · refine me_aload_n (pc' := 16) (i := 0) dX11_parseNumbers_15 rfl rfl rfl ?_
        refine me_iconst (pc' := 17) (v := 1) dX11_parseNumbers_16 rfl kc_i1 ?_
        refine me_callV (As := [.int 1]) (st := []) (F' := (mm_Sq q)) (G' := (mm_Sq q)) (F'' := (mm_Sq q)) (pc' := 20) dX11_parseNumbers_17 rfl mfX11_wrong rfl lkX11_160 kd_352 rfl (mm_ltm kd_352 hN) ⟨Nat.le_of_ble_eq_true rfl, Nat.le_of_ble_eq_true rfl⟩ (Nat.le_of_ble_eq_true rfl) (fun z => z) (rX11_wrong (q := q) 1 h4 hN) (fun x12 e13 => Or.inl ⟨_, _, rfl, fun z => z, ?_⟩)
        show mm_E2 _ _ _ _ _ [.int (mx_bi x12.1)] x12.2 _ _
        exact me_zret (b := x12.1) dX11_parseNumbers_20 rfl (fun z => z) rfl
theorem rX11_parseNumbers {q : Nat × Nat} (p0 : Int32) (p1 : Int32) (h : mm_H) (hN : 358 ≤ q.1) : mm_R2 (mm_Sq q) (mm_Sq q) mX11_parseNumbers [.ref 352, .int p0, .int p1] h (gX11_parseNumbers p0 p1 h) lf_ze := by
  refine mm_body (L := [some (.ref 352), some (.int p0), some (.int p1), none]) rfl (by decide +kernel) (Nat.le_of_ble_eq_true rfl) rfl ?_
  unfold gX11_parseNumbers
  refine me_iconst (pc' := 1) (v := 0) dX11_parseNumbers_0 rfl kc_i0 ?_
  refine me_istore_n (pc' := 2) (i := 3) (L' := [some (.ref 352), some (.int p0), some (.int p1), some (.int 0)]) dX11_parseNumbers_1 rfl rfl (Nat.le_of_ble_eq_true rfl) (Nat.le_of_ble_eq_true rfl) rfl ?_
  exact rX11_parseNumbers_L2 (q := q) p0 p1 hN mm_F 0 h
def gX11_parseArguments (p0 : Int32) (p1 : Int32) (h : mm_H) : Option (Bool × mm_H) :=
mm_jn (fun (h1 : mm_H) =>
if p0 = 0 then
(gX11_parseNumbers ((p1 + 1)) 3 h1).bind (fun (x4 : (Bool × mm_H)) =>
some (x4.1, x4.2))
else
if p0 = 1 then
(gX11_parseNumbers ((p1 + 1)) 1 h1).bind (fun (x7 : (Bool × mm_H)) =>
some (x7.1, x7.2))
else
if p0 = 2 then
(gX11_parseNumbers ((p1 + 1)) 2 h1).bind (fun (x10 : (Bool × mm_H)) =>
some (x10.1, x10.2))
else
if p0 = 3 then
(gX11_parseNumbers p1 1 h1).bind (fun (x13 : (Bool × mm_H)) =>
some (x13.1, x13.2))
else
if p0 = 4 then
(gX11_parseNumbers p1 1 h1).bind (fun (x16 : (Bool × mm_H)) =>
some (x16.1, x16.2))
else
if p0 = 5 then
(gX11_parseNumbers p1 1 h1).bind (fun (x19 : (Bool × mm_H)) =>
some (x19.1, x19.2))
else
if p0 = 6 then
(gX11_parseNumbers p1 2 h1).bind (fun (x22 : (Bool × mm_H)) =>
some (x22.1, x22.2))
else
if p0 = 7 then
some (true, h1)
else
(gX11_parseNumbers p1 1 h1).bind (fun (x25 : (Bool × mm_H)) =>
some (x25.1, x25.2))) (fun (j2 : mm_H → Option (Bool × mm_H)) =>
if 2 < p0 then
j2 h
else
(gX11_isShortWord h).bind (fun (x28 : (Bool × mm_H)) =>
if x28.1 = true then
(gX11_productNamed ((mh_I x28.2 352 12)) (((mh_I x28.2 352 10) - (mh_I x28.2 352 12))) x28.2).bind (fun (x31 : Int32) =>
if mm_ibd p1 150 = true then
(some (ms_I x28.2 357 (Int32.toNatClampNeg (p1)) x31)).bind (fun (h34 : mm_H) =>
if mm_ibd p1 150 = true then
if (mh_I h34 357 (Int32.toNatClampNeg (p1))) = (-1) then
(gX11_wrong 3 h34).bind (fun (x39 : (Bool × mm_H)) =>
some (x39.1, x39.2))
else
(gX11_token h34).bind (fun (h37 : mm_H) =>
j2 h37) else none) else none)
else
some (false, x28.2)))
theorem rX11_parseArguments {q : Nat × Nat} (p0 : Int32) (p1 : Int32) (h : mm_H) (hN : 358 ≤ q.1) : mm_R2 (mm_Sq q) (mm_Sq q) mX11_parseArguments [.ref 352, .int p0, .int p1] h (gX11_parseArguments p0 p1 h) lf_ze := by
  refine mm_body (L := [some (.ref 352), some (.int p0), some (.int p1)]) rfl (by decide +kernel) (Nat.le_of_ble_eq_true rfl) rfl ?_
  unfold gX11_parseArguments
  refine me_iload_n (pc' := 1) (i := 1) dX11_parseArguments_0 rfl rfl rfl ?_
  refine me_iconst (pc' := 2) (v := 2) dX11_parseArguments_1 rfl kc_i2 ?_
  refine mm_jnI (fun (j29 : mm_H → Option (Bool × mm_H)) => ∀ (h1 : mm_H), mm_E2 (mm_Sq q) (mm_Sq q) mX11_parseArguments 57 [some (.ref 352), some (.int p0), some (.int p1)] [] h1 (j29 h1) lf_ze) ?_ (fun j2 j2p => ?_)
  · intro h1
    refine me_iload_n (pc' := 58) (i := 1) dX11_parseArguments_57 rfl rfl rfl ?_
    refine mm_if (fun c3 => ?_) (fun c3 => ?_)
    · refine me_tsw c3 dX11_parseArguments_58 (by decide) (by decide) (tgt := 104) (off := 46) (by decide) (by decide) ?_
      refine me_aload_n (pc' := 105) (i := 0) dX11_parseArguments_104 rfl rfl rfl ?_
      refine me_iload_n (pc' := 106) (i := 2) dX11_parseArguments_105 rfl rfl rfl ?_
      refine me_iconst (pc' := 107) (v := 1) dX11_parseArguments_106 rfl kc_i1 ?_
      refine me_iadd (pc' := 108) dX11_parseArguments_107 rfl ?_
      refine me_iconst (pc' := 109) (v := 3) dX11_parseArguments_108 rfl kc_i3 ?_
      refine me_callV (As := [.int (p1 + 1), .int 3]) (st := []) (F' := (mm_Sq q)) (G' := (mm_Sq q)) (F'' := (mm_Sq q)) (pc' := 112) dX11_parseArguments_109 rfl mfX11_parseNumbers rfl lkX11_217 kd_352 rfl (mm_ltm kd_352 hN) ⟨Nat.le_of_ble_eq_true rfl, Nat.le_of_ble_eq_true rfl⟩ (Nat.le_of_ble_eq_true rfl) (fun z => z) (rX11_parseNumbers (q := q) ((p1 + 1)) 3 h1 hN) (fun x4 e5 => Or.inl ⟨_, _, rfl, fun z => z, ?_⟩)
      show mm_E2 _ _ _ _ _ [.int (mx_bi x4.1)] x4.2 _ _
      exact me_zret (b := x4.1) dX11_parseArguments_112 rfl (fun z => z) rfl
    refine mm_if (fun c6 => ?_) (fun c6 => ?_)
    · refine me_tsw c6 dX11_parseArguments_58 (by decide) (by decide) (tgt := 113) (off := 55) (by decide) (by decide) ?_
      refine me_aload_n (pc' := 114) (i := 0) dX11_parseArguments_113 rfl rfl rfl ?_
      refine me_iload_n (pc' := 115) (i := 2) dX11_parseArguments_114 rfl rfl rfl ?_
      refine me_iconst (pc' := 116) (v := 1) dX11_parseArguments_115 rfl kc_i1 ?_
      refine me_iadd (pc' := 117) dX11_parseArguments_116 rfl ?_
      refine me_iconst (pc' := 118) (v := 1) dX11_parseArguments_117 rfl kc_i1 ?_
      refine me_callV (As := [.int (p1 + 1), .int 1]) (st := []) (F' := (mm_Sq q)) (G' := (mm_Sq q)) (F'' := (mm_Sq q)) (pc' := 121) dX11_parseArguments_118 rfl mfX11_parseNumbers rfl lkX11_217 kd_352 rfl (mm_ltm kd_352 hN) ⟨Nat.le_of_ble_eq_true rfl, Nat.le_of_ble_eq_true rfl⟩ (Nat.le_of_ble_eq_true rfl) (fun z => z) (rX11_parseNumbers (q := q) ((p1 + 1)) 1 h1 hN) (fun x7 e8 => Or.inl ⟨_, _, rfl, fun z => z, ?_⟩)
      show mm_E2 _ _ _ _ _ [.int (mx_bi x7.1)] x7.2 _ _
      exact me_zret (b := x7.1) dX11_parseArguments_121 rfl (fun z => z) rfl
    refine mm_if (fun c9 => ?_) (fun c9 => ?_)
    · refine me_tsw c9 dX11_parseArguments_58 (by decide) (by decide) (tgt := 122) (off := 64) (by decide) (by decide) ?_
      refine me_aload_n (pc' := 123) (i := 0) dX11_parseArguments_122 rfl rfl rfl ?_
      refine me_iload_n (pc' := 124) (i := 2) dX11_parseArguments_123 rfl rfl rfl ?_
      refine me_iconst (pc' := 125) (v := 1) dX11_parseArguments_124 rfl kc_i1 ?_
      refine me_iadd (pc' := 126) dX11_parseArguments_125 rfl ?_
      refine me_iconst (pc' := 127) (v := 2) dX11_parseArguments_126 rfl kc_i2 ?_
      refine me_callV (As := [.int (p1 + 1), .int 2]) (st := []) (F' := (mm_Sq q)) (G' := (mm_Sq q)) (F'' := (mm_Sq q)) (pc' := 130) dX11_parseArguments_127 rfl mfX11_parseNumbers rfl lkX11_217 kd_352 rfl (mm_ltm kd_352 hN) ⟨Nat.le_of_ble_eq_true rfl, Nat.le_of_ble_eq_true rfl⟩ (Nat.le_of_ble_eq_true rfl) (fun z => z) (rX11_parseNumbers (q := q) ((p1 + 1)) 2 h1 hN) (fun x10 e11 => Or.inl ⟨_, _, rfl, fun z => z, ?_⟩)
      show mm_E2 _ _ _ _ _ [.int (mx_bi x10.1)] x10.2 _ _
      exact me_zret (b := x10.1) dX11_parseArguments_130 rfl (fun z => z) rfl
    refine mm_if (fun c12 => ?_) (fun c12 => ?_)
    · refine me_tsw c12 dX11_parseArguments_58 (by decide) (by decide) (tgt := 140) (off := 82) (by decide) (by decide) ?_
      refine me_aload_n (pc' := 141) (i := 0) dX11_parseArguments_140 rfl rfl rfl ?_
      refine me_iload_n (pc' := 142) (i := 2) dX11_parseArguments_141 rfl rfl rfl ?_
      refine me_iconst (pc' := 143) (v := 1) dX11_parseArguments_142 rfl kc_i1 ?_
      refine me_callV (As := [.int p1, .int 1]) (st := []) (F' := (mm_Sq q)) (G' := (mm_Sq q)) (F'' := (mm_Sq q)) (pc' := 146) dX11_parseArguments_143 rfl mfX11_parseNumbers rfl lkX11_217 kd_352 rfl (mm_ltm kd_352 hN) ⟨Nat.le_of_ble_eq_true rfl, Nat.le_of_ble_eq_true rfl⟩ (Nat.le_of_ble_eq_true rfl) (fun z => z) (rX11_parseNumbers (q := q) p1 1 h1 hN) (fun x13 e14 => Or.inl ⟨_, _, rfl, fun z => z, ?_⟩)
      show mm_E2 _ _ _ _ _ [.int (mx_bi x13.1)] x13.2 _ _
      exact me_zret (b := x13.1) dX11_parseArguments_146 rfl (fun z => z) rfl
    refine mm_if (fun c15 => ?_) (fun c15 => ?_)
    · refine me_tsw c15 dX11_parseArguments_58 (by decide) (by decide) (tgt := 140) (off := 82) (by decide) (by decide) ?_
      refine me_aload_n (pc' := 141) (i := 0) dX11_parseArguments_140 rfl rfl rfl ?_
      refine me_iload_n (pc' := 142) (i := 2) dX11_parseArguments_141 rfl rfl rfl ?_
      refine me_iconst (pc' := 143) (v := 1) dX11_parseArguments_142 rfl kc_i1 ?_
      refine me_callV (As := [.int p1, .int 1]) (st := []) (F' := (mm_Sq q)) (G' := (mm_Sq q)) (F'' := (mm_Sq q)) (pc' := 146) dX11_parseArguments_143 rfl mfX11_parseNumbers rfl lkX11_217 kd_352 rfl (mm_ltm kd_352 hN) ⟨Nat.le_of_ble_eq_true rfl, Nat.le_of_ble_eq_true rfl⟩ (Nat.le_of_ble_eq_true rfl) (fun z => z) (rX11_parseNumbers (q := q) p1 1 h1 hN) (fun x16 e17 => Or.inl ⟨_, _, rfl, fun z => z, ?_⟩)
      show mm_E2 _ _ _ _ _ [.int (mx_bi x16.1)] x16.2 _ _
      exact me_zret (b := x16.1) dX11_parseArguments_146 rfl (fun z => z) rfl
    refine mm_if (fun c18 => ?_) (fun c18 => ?_)
    · refine me_tsw c18 dX11_parseArguments_58 (by decide) (by decide) (tgt := 140) (off := 82) (by decide) (by decide) ?_
      refine me_aload_n (pc' := 141) (i := 0) dX11_parseArguments_140 rfl rfl rfl ?_
      refine me_iload_n (pc' := 142) (i := 2) dX11_parseArguments_141 rfl rfl rfl ?_
      refine me_iconst (pc' := 143) (v := 1) dX11_parseArguments_142 rfl kc_i1 ?_
      refine me_callV (As := [.int p1, .int 1]) (st := []) (F' := (mm_Sq q)) (G' := (mm_Sq q)) (F'' := (mm_Sq q)) (pc' := 146) dX11_parseArguments_143 rfl mfX11_parseNumbers rfl lkX11_217 kd_352 rfl (mm_ltm kd_352 hN) ⟨Nat.le_of_ble_eq_true rfl, Nat.le_of_ble_eq_true rfl⟩ (Nat.le_of_ble_eq_true rfl) (fun z => z) (rX11_parseNumbers (q := q) p1 1 h1 hN) (fun x19 e20 => Or.inl ⟨_, _, rfl, fun z => z, ?_⟩)
      show mm_E2 _ _ _ _ _ [.int (mx_bi x19.1)] x19.2 _ _
      exact me_zret (b := x19.1) dX11_parseArguments_146 rfl (fun z => z) rfl
    refine mm_if (fun c21 => ?_) (fun c21 => ?_)
    · refine me_tsw c21 dX11_parseArguments_58 (by decide) (by decide) (tgt := 131) (off := 73) (by decide) (by decide) ?_
      refine me_aload_n (pc' := 132) (i := 0) dX11_parseArguments_131 rfl rfl rfl ?_
      refine me_iload_n (pc' := 133) (i := 2) dX11_parseArguments_132 rfl rfl rfl ?_
      refine me_iconst (pc' := 134) (v := 2) dX11_parseArguments_133 rfl kc_i2 ?_
      refine me_callV (As := [.int p1, .int 2]) (st := []) (F' := (mm_Sq q)) (G' := (mm_Sq q)) (F'' := (mm_Sq q)) (pc' := 137) dX11_parseArguments_134 rfl mfX11_parseNumbers rfl lkX11_217 kd_352 rfl (mm_ltm kd_352 hN) ⟨Nat.le_of_ble_eq_true rfl, Nat.le_of_ble_eq_true rfl⟩ (Nat.le_of_ble_eq_true rfl) (fun z => z) (rX11_parseNumbers (q := q) p1 2 h1 hN) (fun x22 e23 => Or.inl ⟨_, _, rfl, fun z => z, ?_⟩)
      show mm_E2 _ _ _ _ _ [.int (mx_bi x22.1)] x22.2 _ _
      exact me_zret (b := x22.1) dX11_parseArguments_137 rfl (fun z => z) rfl
    refine mm_if (fun c24 => ?_) (fun c24 => ?_)
    · refine me_tsw c24 dX11_parseArguments_58 (by decide) (by decide) (tgt := 138) (off := 80) (by decide) (by decide) ?_
      refine me_iconst (pc' := 139) (v := 1) dX11_parseArguments_138 rfl kc_i1 ?_
      exact me_zret (b := true) dX11_parseArguments_139 rfl (fun z => z) rfl
    refine me_tableOut (tgt := 140) dX11_parseArguments_58 (mm_out7 c3 c6 c9 c12 c15 c18 c21 c24) (by decide) ?_
    refine me_aload_n (pc' := 141) (i := 0) dX11_parseArguments_140 rfl rfl rfl ?_
    refine me_iload_n (pc' := 142) (i := 2) dX11_parseArguments_141 rfl rfl rfl ?_
    refine me_iconst (pc' := 143) (v := 1) dX11_parseArguments_142 rfl kc_i1 ?_
    refine me_callV (As := [.int p1, .int 1]) (st := []) (F' := (mm_Sq q)) (G' := (mm_Sq q)) (F'' := (mm_Sq q)) (pc' := 146) dX11_parseArguments_143 rfl mfX11_parseNumbers rfl lkX11_217 kd_352 rfl (mm_ltm kd_352 hN) ⟨Nat.le_of_ble_eq_true rfl, Nat.le_of_ble_eq_true rfl⟩ (Nat.le_of_ble_eq_true rfl) (fun z => z) (rX11_parseNumbers (q := q) p1 1 h1 hN) (fun x25 e26 => Or.inl ⟨_, _, rfl, fun z => z, ?_⟩)
    show mm_E2 _ _ _ _ _ [.int (mx_bi x25.1)] x25.2 _ _
    exact me_zret (b := x25.1) dX11_parseArguments_146 rfl (fun z => z) rfl
  refine me_icmp_gt (pc' := 5) (tgt := 57) dX11_parseArguments_2 (by decide) rfl (fun c27 => ?_) (fun c27 => ?_)
  · exact j2p h
  · refine me_aload_n (pc' := 6) (i := 0) dX11_parseArguments_5 rfl rfl rfl ?_
    refine me_callV (As := []) (st := []) (F' := (mm_Sq q)) (G' := (mm_Sq q)) (F'' := (mm_Sq q)) (pc' := 9) dX11_parseArguments_6 rfl mfX11_isShortWord rfl lkX11_163 kd_352 rfl (mm_ltm kd_352 hN) ⟨Nat.le_of_ble_eq_true rfl, Nat.le_of_ble_eq_true rfl⟩ (Nat.le_of_ble_eq_true rfl) (fun z => z) (rX11_isShortWord (q := q) h hN) (fun x28 e29 => Or.inl ⟨_, _, rfl, fun z => z, ?_⟩)
    show mm_E2 _ _ _ _ _ [.int (mx_bi x28.1)] x28.2 _ _
    refine me_ifB_ne (pc' := 12) (tgt := 14) dX11_parseArguments_9 (by decide) rfl (fun c30 => ?_) (fun c30 => ?_)
    · refine me_aload_n (pc' := 15) (i := 0) dX11_parseArguments_14 rfl rfl rfl ?_
      refine me_getR (pc' := 18) (q' := 357) dX11_parseArguments_15 rfl fkX11_54 kd_352 (mm_ltm kd_352 hN) rfl (mrX11_14 hN) ?_
      refine me_iload_n (pc' := 19) (i := 2) dX11_parseArguments_18 rfl rfl rfl ?_
      refine me_aload_n (pc' := 20) (i := 0) dX11_parseArguments_19 rfl rfl rfl ?_
      refine me_aload_n (pc' := 21) (i := 0) dX11_parseArguments_20 rfl rfl rfl ?_
      refine me_getI (pc' := 24) dX11_parseArguments_21 rfl fkX11_48 kd_352 (mm_ltm kd_352 hN) rfl ?_
      refine me_aload_n (pc' := 25) (i := 0) dX11_parseArguments_24 rfl rfl rfl ?_
      refine me_getI (pc' := 28) dX11_parseArguments_25 rfl fkX11_42 kd_352 (mm_ltm kd_352 hN) rfl ?_
      refine me_aload_n (pc' := 29) (i := 0) dX11_parseArguments_28 rfl rfl rfl ?_
      refine me_getI (pc' := 32) dX11_parseArguments_29 rfl fkX11_48 kd_352 (mm_ltm kd_352 hN) rfl ?_
      refine me_isub (pc' := 33) dX11_parseArguments_32 rfl ?_
      refine me_callV (As := [.int (mh_I x28.2 352 12), .int ((mh_I x28.2 352 10) - (mh_I x28.2 352 12))]) (st := [.int p1, .ref 357]) (F' := (mm_Sq q)) (G' := (mm_Sq q)) (F'' := (mm_Sq q)) (pc' := 36) dX11_parseArguments_33 rfl mfX11_productNamed rfl lkX11_166 kd_352 rfl (mm_ltm kd_352 hN) ⟨Nat.le_of_ble_eq_true rfl, Nat.le_of_ble_eq_true rfl⟩ (Nat.le_of_ble_eq_true rfl) (fun z => z) (rX11_productNamed (q := q) ((mh_I x28.2 352 12)) (((mh_I x28.2 352 10) - (mh_I x28.2 352 12))) x28.2 hN) (fun x31 e32 => Or.inl ⟨_, _, rfl, fun z => z, ?_⟩)
      show mm_E2 _ _ _ _ _ [.int x31, .int p1, .ref 357] x28.2 _ _
      refine mm_guard (fun c33 => ?_)
      refine me_iast (F' := (mm_Sq q)) (pc' := 37) dX11_parseArguments_36 rfl kd_357 (mm_ltm kd_357 hN) (mm_ibd_of c33) (fun z => z) ?_
      refine mm_bnd (ms_I x28.2 357 (Int32.toNatClampNeg (p1)) x31) (fun _ => [some (.ref 352), some (.int p0), some (.int p1)]) (fun _ => []) (fun h34 => h34) (fun h34 => ?_)
      refine me_aload_n (pc' := 38) (i := 0) dX11_parseArguments_37 rfl rfl rfl ?_
      refine me_getR (pc' := 41) (q' := 357) dX11_parseArguments_38 rfl fkX11_54 kd_352 (mm_ltm kd_352 hN) rfl (mrX11_14 hN) ?_
      refine me_iload_n (pc' := 42) (i := 2) dX11_parseArguments_41 rfl rfl rfl ?_
      refine mm_guard (fun c35 => ?_)
      refine me_iald (pc' := 43) dX11_parseArguments_42 rfl kd_357 (mm_ltm kd_357 hN) (mm_ibd_of c35) ?_
      refine me_iconst (pc' := 44) (v := (-1)) dX11_parseArguments_43 rfl kc_im1 ?_
      refine me_icmp_ne (pc' := 47) (tgt := 53) dX11_parseArguments_44 (by decide) rfl (fun c36 => ?_) (fun c36 => ?_)
      · refine me_aload_n (pc' := 54) (i := 0) dX11_parseArguments_53 rfl rfl rfl ?_
        refine me_callV (As := []) (st := []) (F' := (mm_Sq q)) (G' := (mm_Sq q)) (F'' := (mm_Sq q)) (pc' := 57) dX11_parseArguments_54 rfl mfX11_token rfl lkX11_157 kd_352 rfl (mm_ltm kd_352 hN) ⟨Nat.le_of_ble_eq_true rfl, Nat.le_of_ble_eq_true rfl⟩ (Nat.le_of_ble_eq_true rfl) (fun z => z) (rX11_token (q := q) h34 hN) (fun h37 e38 => Or.inl ⟨_, _, rfl, fun z => z, ?_⟩)
        show mm_E2 _ _ _ _ _ [] h37 _ _
        exact j2p h37
      · refine me_aload_n (pc' := 48) (i := 0) dX11_parseArguments_47 rfl rfl rfl ?_
        refine me_iconst (pc' := 49) (v := 3) dX11_parseArguments_48 rfl kc_i3 ?_
        refine me_callV (As := [.int 3]) (st := []) (F' := (mm_Sq q)) (G' := (mm_Sq q)) (F'' := (mm_Sq q)) (pc' := 52) dX11_parseArguments_49 rfl mfX11_wrong rfl lkX11_160 kd_352 rfl (mm_ltm kd_352 hN) ⟨Nat.le_of_ble_eq_true rfl, Nat.le_of_ble_eq_true rfl⟩ (Nat.le_of_ble_eq_true rfl) (fun z => z) (rX11_wrong (q := q) 3 h34 hN) (fun x39 e40 => Or.inl ⟨_, _, rfl, fun z => z, ?_⟩)
        show mm_E2 _ _ _ _ _ [.int (mx_bi x39.1)] x39.2 _ _
        exact me_zret (b := x39.1) dX11_parseArguments_52 rfl (fun z => z) rfl
    · refine me_iconst (pc' := 13) (v := 0) dX11_parseArguments_12 rfl kc_i0 ?_
      exact me_zret (b := false) dX11_parseArguments_13 rfl (fun z => z) rfl
def gX11_parseScript_L2 : Nat → Int32 → mm_H → Option (Int32 × mm_H)
  | 0, _, _ => none
  | n + 1, w1, h2 =>
    if (mh_I h2 352 11) = 0 then
    some (w1, h2)
    else
    (gX11_commandHere h2).bind (fun (x4 : Int32) =>
    mm_jn (fun (y6 : Int32) (h7 : mm_H) =>
    if y6 = 0 then
    some ((-1), h7)
    else
    (gX11_token h7).bind (fun (h10 : mm_H) =>
    if mm_ibd ((w1 * 5)) 150 = true then
    (some (ms_I h10 357 (Int32.toNatClampNeg ((w1 * 5))) x4)).bind (fun (h13 : mm_H) =>
    (gX11_parseArguments x4 (((w1 * 5) + 1)) h13).bind (fun (x14 : (Bool × mm_H)) =>
    if x14.1 = true then
    (gX11_semicolon x14.2).bind (fun (x17 : (Bool × mm_H)) =>
    if x17.1 = true then
    (some (w1 + 1)).bind (fun (x20 : Int32) =>
    gX11_parseScript_L2 n x20 x17.2)
    else
    some ((-1), x17.2))
    else
    some ((-1), x14.2))) else none)) (fun (j8 : Int32 → mm_H → Option (Int32 × mm_H)) =>
    if x4 = (-1) then
    (gX11_wrong 1 h2).bind (fun (x22 : (Bool × mm_H)) =>
    j8 ((mx_bi x22.1)) x22.2)
    else
    mm_jn (fun (h24 : mm_H) =>
    j8 1 h24) (fun (j25 : mm_H → Option (Int32 × mm_H)) =>
    if w1 < 30 then
    j25 h2
    else
    (gX11_wrong 4 h2).bind (fun (x27 : (Bool × mm_H)) =>
    if x27.1 = true then
    j25 x27.2
    else
    j8 0 x27.2))))
def gX11_parseScript (h : mm_H) : Option (Int32 × mm_H) :=
gX11_parseScript_L2 mm_F 0 h
theorem rX11_parseScript_L2 {q : Nat × Nat}      (hN : 358 ≤ q.1) : ∀ (n : Nat) (w1 : Int32) (h2 : mm_H), mm_E2 (mm_Sq q) (mm_Sq q) mX11_parseScript 2 [some (.ref 352), some (.int w1), none, none] [] h2 (gX11_parseScript_L2  n w1 h2) lf_ie := by
  intro n
  induction n with
  | zero =>
    intro w1 h2
    exact mm_none
  | succ n ih =>
    intro w1 h2
    rw [gX11_parseScript_L2]
    refine me_aload_n (pc' := 3) (i := 0) dX11_parseScript_2 rfl rfl rfl ?_
    refine me_getI (pc' := 6) dX11_parseScript_3 rfl fkX11_45 kd_352 (mm_ltm kd_352 hN) rfl ?_
    refine me_if_eq (pc' := 9) (tgt := 94) dX11_parseScript_6 (by decide) rfl (fun c3 => ?_) (fun c3 => ?_)
    · refine me_iload_n (pc' := 95) (i := 1) dX11_parseScript_94 rfl rfl rfl ?_
      exact me_iret dX11_parseScript_95 rfl (fun z => z) rfl
    · refine me_aload_n (pc' := 10) (i := 0) dX11_parseScript_9 rfl rfl rfl ?_
      refine me_callV (As := []) (st := []) (F' := (mm_Sq q)) (G' := (mm_Sq q)) (F'' := (mm_Sq q)) (pc' := 13) dX11_parseScript_10 rfl mfX11_commandHere rfl lkX11_220 kd_352 rfl (mm_ltm kd_352 hN) ⟨Nat.le_of_ble_eq_true rfl, Nat.le_of_ble_eq_true rfl⟩ (Nat.le_of_ble_eq_true rfl) (fun z => z) (rX11_commandHere (q := q) h2 hN) (fun x4 e5 => Or.inl ⟨_, _, rfl, fun z => z, ?_⟩)
      show mm_E2 _ _ _ _ _ [.int x4] h2 _ _
      refine me_istore_n (pc' := 14) (i := 2) (L' := [some (.ref 352), some (.int w1), some (.int x4), none]) dX11_parseScript_13 rfl rfl (Nat.le_of_ble_eq_true rfl) (Nat.le_of_ble_eq_true rfl) rfl ?_
      refine me_iload_n (pc' := 15) (i := 2) dX11_parseScript_14 rfl rfl rfl ?_
      refine me_iconst (pc' := 16) (v := (-1)) dX11_parseScript_15 rfl kc_im1 ?_
      refine mm_jnI (fun (j89 : Int32 → mm_H → Option (Int32 × mm_H)) => ∀ (y6 : Int32) (h7 : mm_H), mm_E2 (mm_Sq q) (mm_Sq q) mX11_parseScript 46 [some (.ref 352), some (.int w1), some (.int x4), none] [.int y6] h7 (j89 y6 h7) lf_ie) ?_ (fun j8 j8p => ?_)
      · intro y6 h7
        refine me_istore_n (pc' := 47) (i := 3) (L' := [some (.ref 352), some (.int w1), some (.int x4), some (.int y6)]) dX11_parseScript_46 rfl rfl (Nat.le_of_ble_eq_true rfl) (Nat.le_of_ble_eq_true rfl) rfl ?_
        refine me_iload_n (pc' := 48) (i := 3) dX11_parseScript_47 rfl rfl rfl ?_
        refine me_if_ne (pc' := 51) (tgt := 53) dX11_parseScript_48 (by decide) rfl (fun c9 => ?_) (fun c9 => ?_)
        · refine me_aload_n (pc' := 54) (i := 0) dX11_parseScript_53 rfl rfl rfl ?_
          refine me_callV (As := []) (st := []) (F' := (mm_Sq q)) (G' := (mm_Sq q)) (F'' := (mm_Sq q)) (pc' := 57) dX11_parseScript_54 rfl mfX11_token rfl lkX11_157 kd_352 rfl (mm_ltm kd_352 hN) ⟨Nat.le_of_ble_eq_true rfl, Nat.le_of_ble_eq_true rfl⟩ (Nat.le_of_ble_eq_true rfl) (fun z => z) (rX11_token (q := q) h7 hN) (fun h10 e11 => Or.inl ⟨_, _, rfl, fun z => z, ?_⟩)
          show mm_E2 _ _ _ _ _ [] h10 _ _
          refine me_aload_n (pc' := 58) (i := 0) dX11_parseScript_57 rfl rfl rfl ?_
          refine me_getR (pc' := 61) (q' := 357) dX11_parseScript_58 rfl fkX11_54 kd_352 (mm_ltm kd_352 hN) rfl (mrX11_14 hN) ?_
          refine me_iload_n (pc' := 62) (i := 1) dX11_parseScript_61 rfl rfl rfl ?_
          refine me_iconst (pc' := 63) (v := 5) dX11_parseScript_62 rfl kc_i5 ?_
          refine me_imul (pc' := 64) dX11_parseScript_63 rfl ?_
          refine me_iload_n (pc' := 65) (i := 2) dX11_parseScript_64 rfl rfl rfl ?_
          refine mm_guard (fun c12 => ?_)
          refine me_iast (F' := (mm_Sq q)) (pc' := 66) dX11_parseScript_65 rfl kd_357 (mm_ltm kd_357 hN) (mm_ibd_of c12) (fun z => z) ?_
          refine mm_bnd (ms_I h10 357 (Int32.toNatClampNeg ((w1 * 5))) x4) (fun _ => [some (.ref 352), some (.int w1), some (.int x4), some (.int y6)]) (fun _ => []) (fun h13 => h13) (fun h13 => ?_)
          refine me_aload_n (pc' := 67) (i := 0) dX11_parseScript_66 rfl rfl rfl ?_
          refine me_iload_n (pc' := 68) (i := 2) dX11_parseScript_67 rfl rfl rfl ?_
          refine me_iload_n (pc' := 69) (i := 1) dX11_parseScript_68 rfl rfl rfl ?_
          refine me_iconst (pc' := 70) (v := 5) dX11_parseScript_69 rfl kc_i5 ?_
          refine me_imul (pc' := 71) dX11_parseScript_70 rfl ?_
          refine me_iconst (pc' := 72) (v := 1) dX11_parseScript_71 rfl kc_i1 ?_
          refine me_iadd (pc' := 73) dX11_parseScript_72 rfl ?_
          refine me_callV (As := [.int x4, .int ((w1 * 5) + 1)]) (st := []) (F' := (mm_Sq q)) (G' := (mm_Sq q)) (F'' := (mm_Sq q)) (pc' := 76) dX11_parseScript_73 rfl mfX11_parseArguments rfl lkX11_223 kd_352 rfl (mm_ltm kd_352 hN) ⟨Nat.le_of_ble_eq_true rfl, Nat.le_of_ble_eq_true rfl⟩ (Nat.le_of_ble_eq_true rfl) (fun z => z) (rX11_parseArguments (q := q) x4 (((w1 * 5) + 1)) h13 hN) (fun x14 e15 => Or.inl ⟨_, _, rfl, fun z => z, ?_⟩)
          show mm_E2 _ _ _ _ _ [.int (mx_bi x14.1)] x14.2 _ _
          refine me_ifB_eq (pc' := 79) (tgt := 86) dX11_parseScript_76 (by decide) rfl (fun c16 => ?_) (fun c16 => ?_)
          · refine me_iconst (pc' := 87) (v := (-1)) dX11_parseScript_86 rfl kc_im1 ?_
            exact me_iret dX11_parseScript_87 rfl (fun z => z) rfl
          · refine me_aload_n (pc' := 80) (i := 0) dX11_parseScript_79 rfl rfl rfl ?_
            refine me_callV (As := []) (st := []) (F' := (mm_Sq q)) (G' := (mm_Sq q)) (F'' := (mm_Sq q)) (pc' := 83) dX11_parseScript_80 rfl mfX11_semicolon rfl lkX11_172 kd_352 rfl (mm_ltm kd_352 hN) ⟨Nat.le_of_ble_eq_true rfl, Nat.le_of_ble_eq_true rfl⟩ (Nat.le_of_ble_eq_true rfl) (fun z => z) (rX11_semicolon (q := q) x14.2 hN) (fun x17 e18 => Or.inl ⟨_, _, rfl, fun z => z, ?_⟩)
            show mm_E2 _ _ _ _ _ [.int (mx_bi x17.1)] x17.2 _ _
            refine me_ifB_ne (pc' := 86) (tgt := 88) dX11_parseScript_83 (by decide) rfl (fun c19 => ?_) (fun c19 => ?_)
            · refine me_iinc (pc' := 91) (i := 1) (x := w1) (y := w1 + 1) (L' := [some (.ref 352), some (.int (w1 + 1)), some (.int x4), some (.int y6)]) dX11_parseScript_88 rfl (Nat.le_of_ble_eq_true rfl) (Nat.le_of_ble_eq_true rfl) rfl (kc_plus kc_i1) rfl ?_
              refine mm_bnd (w1 + 1) (fun x20 => [some (.ref 352), some (.int x20), some (.int x4), some (.int y6)]) (fun _ => []) (fun _ => x17.2) (fun x20 => ?_)
              refine me_goto (tgt := 2) dX11_parseScript_91 (by decide) ?_
              exact mm_maskB [true, true, false, false] (ih x20 x17.2)
            · refine me_iconst (pc' := 87) (v := (-1)) dX11_parseScript_86 rfl kc_im1 ?_
              exact me_iret dX11_parseScript_87 rfl (fun z => z) rfl
        · refine me_iconst (pc' := 52) (v := (-1)) dX11_parseScript_51 rfl kc_im1 ?_
          exact me_iret dX11_parseScript_52 rfl (fun z => z) rfl
      refine me_icmp_eq (pc' := 19) (tgt := 41) dX11_parseScript_16 (by decide) rfl (fun c21 => ?_) (fun c21 => ?_)
      · refine me_aload_n (pc' := 42) (i := 0) dX11_parseScript_41 rfl rfl rfl ?_
        refine me_iconst (pc' := 43) (v := 1) dX11_parseScript_42 rfl kc_i1 ?_
        refine me_callV (As := [.int 1]) (st := []) (F' := (mm_Sq q)) (G' := (mm_Sq q)) (F'' := (mm_Sq q)) (pc' := 46) dX11_parseScript_43 rfl mfX11_wrong rfl lkX11_160 kd_352 rfl (mm_ltm kd_352 hN) ⟨Nat.le_of_ble_eq_true rfl, Nat.le_of_ble_eq_true rfl⟩ (Nat.le_of_ble_eq_true rfl) (fun z => z) (rX11_wrong (q := q) 1 h2 hN) (fun x22 e23 => Or.inl ⟨_, _, rfl, fun z => z, ?_⟩)
        show mm_E2 _ _ _ _ _ [.int (mx_bi x22.1)] x22.2 _ _
        exact j8p ((mx_bi x22.1)) x22.2
      · refine me_iload_n (pc' := 20) (i := 1) dX11_parseScript_19 rfl rfl rfl ?_
        refine me_bipush (pc' := 22) (v := 30) dX11_parseScript_20 rfl kc_b30 ?_
        refine mm_jnI (fun (j259 : mm_H → Option (Int32 × mm_H)) => ∀ (h24 : mm_H), mm_E2 (mm_Sq q) (mm_Sq q) mX11_parseScript 33 [some (.ref 352), some (.int w1), some (.int x4), none] [] h24 (j259 h24) lf_ie) ?_ (fun j25 j25p => ?_)
        · intro h24
          refine me_iconst (pc' := 34) (v := 1) dX11_parseScript_33 rfl kc_i1 ?_
          refine me_goto (tgt := 46) dX11_parseScript_34 (by decide) ?_
          exact j8p 1 h24
        refine me_icmp_lt (pc' := 25) (tgt := 33) dX11_parseScript_22 (by decide) rfl (fun c26 => ?_) (fun c26 => ?_)
        · exact j25p h2
        · refine me_aload_n (pc' := 26) (i := 0) dX11_parseScript_25 rfl rfl rfl ?_
          refine me_iconst (pc' := 27) (v := 4) dX11_parseScript_26 rfl kc_i4 ?_
          refine me_callV (As := [.int 4]) (st := []) (F' := (mm_Sq q)) (G' := (mm_Sq q)) (F'' := (mm_Sq q)) (pc' := 30) dX11_parseScript_27 rfl mfX11_wrong rfl lkX11_160 kd_352 rfl (mm_ltm kd_352 hN) ⟨Nat.le_of_ble_eq_true rfl, Nat.le_of_ble_eq_true rfl⟩ (Nat.le_of_ble_eq_true rfl) (fun z => z) (rX11_wrong (q := q) 4 h2 hN) (fun x27 e28 => Or.inl ⟨_, _, rfl, fun z => z, ?_⟩)
          show mm_E2 _ _ _ _ _ [.int (mx_bi x27.1)] x27.2 _ _
          refine me_ifB_eq (pc' := 33) (tgt := 37) dX11_parseScript_30 (by decide) rfl (fun c29 => ?_) (fun c29 => ?_)
          · refine me_iconst (pc' := 38) (v := 0) dX11_parseScript_37 rfl kc_i0 ?_
            refine me_goto (tgt := 46) dX11_parseScript_38 (by decide) ?_
            exact j8p 0 x27.2
          · exact j25p x27.2
theorem rX11_parseScript {q : Nat × Nat} (h : mm_H) (hN : 358 ≤ q.1) : mm_R2 (mm_Sq q) (mm_Sq q) mX11_parseScript [.ref 352] h (gX11_parseScript h) lf_ie := by
  refine mm_body (L := [some (.ref 352), none, none, none]) rfl (by decide +kernel) (Nat.le_of_ble_eq_true rfl) rfl ?_
  unfold gX11_parseScript
  refine me_iconst (pc' := 1) (v := 0) dX11_parseScript_0 rfl kc_i0 ?_
  refine me_istore_n (pc' := 2) (i := 1) (L' := [some (.ref 352), some (.int 0), none, none]) dX11_parseScript_1 rfl rfl (Nat.le_of_ble_eq_true rfl) (Nat.le_of_ble_eq_true rfl) rfl ?_
  exact rX11_parseScript_L2 (q := q) hN mm_F 0 h
def gX11_canDo (p0 : Int32) (h : mm_H) : Option Bool :=
if mm_ibd ((p0 + 1)) 150 = true then
(some ((mh_I h 357 (Int32.toNatClampNeg ((p0 + 1)))))).bind (fun (x2 : Int32) =>
if mm_ibd ((p0 + 2)) 150 = true then
(some ((mh_I h 357 (Int32.toNatClampNeg ((p0 + 2)))))).bind (fun (x4 : Int32) =>
if mm_ibd ((p0 + 3)) 150 = true then
(some ((mh_I h 357 (Int32.toNatClampNeg ((p0 + 3)))))).bind (fun (x6 : Int32) =>
if mm_ibd p0 150 = true then
if (mh_I h 357 (Int32.toNatClampNeg (p0))) = 0 then
if mm_ibd ((p0 + 4)) 150 = true then
(gX11_isBatchData x4 x6 ((mh_I h 357 (Int32.toNatClampNeg ((p0 + 4))))) h).bind (fun (x10 : Bool) =>
if x10 = true then
if mm_ibd 2 4200 = true then
if (mh_I h 353 (Int32.toNatClampNeg (2))) < 20 then
some true
else
some false else none
else
some false) else none
else
if (mh_I h 357 (Int32.toNatClampNeg (p0))) = 1 then
if x4 < 1 then
some false
else
(gX11_canIssue x2 x4 h).bind (fun (x17 : Bool) =>
if x17 = true then
some true
else
some false)
else
if (mh_I h 357 (Int32.toNatClampNeg (p0))) = 2 then
if x4 < 1 then
some false
else
if mm_ibd 0 4200 = true then
if x6 < (mh_I h 353 (Int32.toNatClampNeg (0))) then
some false
else
(gX11_canReserve x2 x4 x6 h).bind (fun (x24 : Bool) =>
if x24 = true then
some true
else
some false) else none
else
if (mh_I h 357 (Int32.toNatClampNeg (p0))) = 3 then
(gX11_isReservation x2 h).bind (fun (x28 : Bool) =>
if x28 = true then
(gX11_shippingReason x2 h).bind (fun (x31 : Int32) =>
if x31 = 0 then
some true
else
some false)
else
some false)
else
if (mh_I h 357 (Int32.toNatClampNeg (p0))) = 4 then
(gX11_isReservation x2 h).bind (fun (x35 : Bool) =>
if x35 = true then
(gX11_isOpenOne x2 h).bind (fun (x38 : Bool) =>
if x38 = true then
some true
else
some false)
else
some false)
else
if (mh_I h 357 (Int32.toNatClampNeg (p0))) = 5 then
(gX11_isReservation x2 h).bind (fun (x42 : Bool) =>
if x42 = true then
(gX11_isOpenOne x2 h).bind (fun (x45 : Bool) =>
if x45 = true then
some true
else
some false)
else
some false)
else
if (mh_I h 357 (Int32.toNatClampNeg (p0))) = 6 then
(gX11_isBatch x2 h).bind (fun (x49 : Bool) =>
if x49 = true then
if 999 < x4 then
some false
else
(gX11_held x2 h).bind (fun (x53 : Int32) =>
if x4 < x53 then
some false
else
some true)
else
some false)
else
if (mh_I h 357 (Int32.toNatClampNeg (p0))) = 7 then
some true
else
(gX11_in x2 1 999 h).bind (fun (x57 : Bool) =>
if x57 = true then
if mm_ibd 0 4200 = true then
if 9999 < ((mh_I h 353 (Int32.toNatClampNeg (0))) + x2) then
some false
else
some true else none
else
some false) else none) else none) else none) else none
theorem rX11_canDo {q : Nat × Nat} (p0 : Int32) (h : mm_H) (hN : 358 ≤ q.1) : mm_R2 (mm_Sq q) (mm_Sq q) mX11_canDo [.ref 352, .int p0] h (gX11_canDo p0 h) (lf_z h) := by
  refine mm_body (L := [some (.ref 352), some (.int p0), none, none, none]) rfl (by decide +kernel) (Nat.le_of_ble_eq_true rfl) rfl ?_
  unfold gX11_canDo
  refine me_aload_n (pc' := 1) (i := 0) dX11_canDo_0 rfl rfl rfl ?_
  refine me_getR (pc' := 4) (q' := 357) dX11_canDo_1 rfl fkX11_54 kd_352 (mm_ltm kd_352 hN) rfl (mrX11_14 hN) ?_
  refine me_iload_n (pc' := 5) (i := 1) dX11_canDo_4 rfl rfl rfl ?_
  refine me_iconst (pc' := 6) (v := 1) dX11_canDo_5 rfl kc_i1 ?_
  refine me_iadd (pc' := 7) dX11_canDo_6 rfl ?_
  refine mm_guard (fun c1 => ?_)
  refine me_iald (pc' := 8) dX11_canDo_7 rfl kd_357 (mm_ltm kd_357 hN) (mm_ibd_of c1) ?_
  refine mm_bnd ((mh_I h 357 (Int32.toNatClampNeg ((p0 + 1))))) (fun x2 => [some (.ref 352), some (.int p0), none, none, none]) (fun x2 => [.int x2]) (fun _ => h) (fun x2 => ?_)
  refine me_istore_n (pc' := 9) (i := 2) (L' := [some (.ref 352), some (.int p0), some (.int x2), none, none]) dX11_canDo_8 rfl rfl (Nat.le_of_ble_eq_true rfl) (Nat.le_of_ble_eq_true rfl) rfl ?_
  refine me_aload_n (pc' := 10) (i := 0) dX11_canDo_9 rfl rfl rfl ?_
  refine me_getR (pc' := 13) (q' := 357) dX11_canDo_10 rfl fkX11_54 kd_352 (mm_ltm kd_352 hN) rfl (mrX11_14 hN) ?_
  refine me_iload_n (pc' := 14) (i := 1) dX11_canDo_13 rfl rfl rfl ?_
  refine me_iconst (pc' := 15) (v := 2) dX11_canDo_14 rfl kc_i2 ?_
  refine me_iadd (pc' := 16) dX11_canDo_15 rfl ?_
  refine mm_guard (fun c3 => ?_)
  refine me_iald (pc' := 17) dX11_canDo_16 rfl kd_357 (mm_ltm kd_357 hN) (mm_ibd_of c3) ?_
  refine mm_bnd ((mh_I h 357 (Int32.toNatClampNeg ((p0 + 2))))) (fun x4 => [some (.ref 352), some (.int p0), some (.int x2), none, none]) (fun x4 => [.int x4]) (fun _ => h) (fun x4 => ?_)
  refine me_istore_n (pc' := 18) (i := 3) (L' := [some (.ref 352), some (.int p0), some (.int x2), some (.int x4), none]) dX11_canDo_17 rfl rfl (Nat.le_of_ble_eq_true rfl) (Nat.le_of_ble_eq_true rfl) rfl ?_
  refine me_aload_n (pc' := 19) (i := 0) dX11_canDo_18 rfl rfl rfl ?_
  refine me_getR (pc' := 22) (q' := 357) dX11_canDo_19 rfl fkX11_54 kd_352 (mm_ltm kd_352 hN) rfl (mrX11_14 hN) ?_
  refine me_iload_n (pc' := 23) (i := 1) dX11_canDo_22 rfl rfl rfl ?_
  refine me_iconst (pc' := 24) (v := 3) dX11_canDo_23 rfl kc_i3 ?_
  refine me_iadd (pc' := 25) dX11_canDo_24 rfl ?_
  refine mm_guard (fun c5 => ?_)
  refine me_iald (pc' := 26) dX11_canDo_25 rfl kd_357 (mm_ltm kd_357 hN) (mm_ibd_of c5) ?_
  refine mm_bnd ((mh_I h 357 (Int32.toNatClampNeg ((p0 + 3))))) (fun x6 => [some (.ref 352), some (.int p0), some (.int x2), some (.int x4), none]) (fun x6 => [.int x6]) (fun _ => h) (fun x6 => ?_)
  refine me_istore (pc' := 28) (i := 4) (L' := [some (.ref 352), some (.int p0), some (.int x2), some (.int x4), some (.int x6)]) dX11_canDo_26 rfl (Nat.le_of_ble_eq_true rfl) (Nat.le_of_ble_eq_true rfl) rfl ?_
  refine me_aload_n (pc' := 29) (i := 0) dX11_canDo_28 rfl rfl rfl ?_
  refine me_getR (pc' := 32) (q' := 357) dX11_canDo_29 rfl fkX11_54 kd_352 (mm_ltm kd_352 hN) rfl (mrX11_14 hN) ?_
  refine me_iload_n (pc' := 33) (i := 1) dX11_canDo_32 rfl rfl rfl ?_
  refine mm_guard (fun c7 => ?_)
  refine me_iald (pc' := 34) dX11_canDo_33 rfl kd_357 (mm_ltm kd_357 hN) (mm_ibd_of c7) ?_
  refine mm_if (fun c8 => ?_) (fun c8 => ?_)
  · refine me_tsw c8 dX11_canDo_34 (by decide) (by decide) (tgt := 80) (off := 46) (by decide) (by decide) ?_
    refine me_iload_n (pc' := 81) (i := 3) dX11_canDo_80 rfl rfl rfl ?_
    refine me_iload (pc' := 83) (i := 4) dX11_canDo_81 rfl rfl ?_
    refine me_aload_n (pc' := 84) (i := 0) dX11_canDo_83 rfl rfl rfl ?_
    refine me_getR (pc' := 87) (q' := 357) dX11_canDo_84 rfl fkX11_54 kd_352 (mm_ltm kd_352 hN) rfl (mrX11_14 hN) ?_
    refine me_iload_n (pc' := 88) (i := 1) dX11_canDo_87 rfl rfl rfl ?_
    refine me_iconst (pc' := 89) (v := 4) dX11_canDo_88 rfl kc_i4 ?_
    refine me_iadd (pc' := 90) dX11_canDo_89 rfl ?_
    refine mm_guard (fun c9 => ?_)
    refine me_iald (pc' := 91) dX11_canDo_90 rfl kd_357 (mm_ltm kd_357 hN) (mm_ibd_of c9) ?_
    refine me_callS (As := [.int x4, .int x6, .int (mh_I h 357 (Int32.toNatClampNeg ((p0 + 4))))]) (st := []) (F' := (mm_Sq q)) (G' := (mm_Sq q)) (F'' := (mm_Sq q)) (pc' := 94) dX11_canDo_91 rfl mfX11_isBatchData rfl lkX11_226 ⟨Nat.le_of_ble_eq_true rfl, Nat.le_of_ble_eq_true rfl⟩ (Nat.le_of_ble_eq_true rfl) (fun z => z) (rX11_isBatchData (q := q) x4 x6 ((mh_I h 357 (Int32.toNatClampNeg ((p0 + 4))))) h hN) (fun x10 e11 => Or.inl ⟨_, _, rfl, fun z => z, ?_⟩)
    show mm_E2 _ _ _ _ _ [.int (mx_bi x10)] h _ _
    refine me_ifB_eq (pc' := 97) (tgt := 112) dX11_canDo_94 (by decide) rfl (fun c12 => ?_) (fun c12 => ?_)
    · refine me_iconst (pc' := 113) (v := 0) dX11_canDo_112 rfl kc_i0 ?_
      exact me_zret (b := false) dX11_canDo_113 rfl (fun z => z) rfl
    · refine me_aload_n (pc' := 98) (i := 0) dX11_canDo_97 rfl rfl rfl ?_
      refine me_getR (pc' := 101) (q' := 353) dX11_canDo_98 rfl fkX11_13 kd_352 (mm_ltm kd_352 hN) rfl (mrX11_0 hN) ?_
      refine me_iconst (pc' := 102) (v := 2) dX11_canDo_101 rfl kc_i2 ?_
      refine mm_guard (fun c13 => ?_)
      refine me_iald (pc' := 103) dX11_canDo_102 rfl kd_353 (mm_ltm kd_353 hN) (mm_ibd_of c13) ?_
      refine me_bipush (pc' := 105) (v := 20) dX11_canDo_103 rfl kc_b20 ?_
      refine me_icmp_ge (pc' := 108) (tgt := 112) dX11_canDo_105 (by decide) rfl (fun c14 => ?_) (fun c14 => ?_)
      · refine me_iconst (pc' := 113) (v := 0) dX11_canDo_112 rfl kc_i0 ?_
        exact me_zret (b := false) dX11_canDo_113 rfl (fun z => z) rfl
      · refine me_iconst (pc' := 109) (v := 1) dX11_canDo_108 rfl kc_i1 ?_
        refine me_goto (tgt := 113) dX11_canDo_109 (by decide) ?_
        exact me_zret (b := true) dX11_canDo_113 rfl (fun z => z) rfl
  refine mm_if (fun c15 => ?_) (fun c15 => ?_)
  · refine me_tsw c15 dX11_canDo_34 (by decide) (by decide) (tgt := 114) (off := 80) (by decide) (by decide) ?_
    refine me_iload_n (pc' := 115) (i := 3) dX11_canDo_114 rfl rfl rfl ?_
    refine me_iconst (pc' := 116) (v := 1) dX11_canDo_115 rfl kc_i1 ?_
    refine me_icmp_lt (pc' := 119) (tgt := 132) dX11_canDo_116 (by decide) rfl (fun c16 => ?_) (fun c16 => ?_)
    · refine me_iconst (pc' := 133) (v := 0) dX11_canDo_132 rfl kc_i0 ?_
      exact me_zret (b := false) dX11_canDo_133 rfl (fun z => z) rfl
    · refine me_aload_n (pc' := 120) (i := 0) dX11_canDo_119 rfl rfl rfl ?_
      refine me_iload_n (pc' := 121) (i := 2) dX11_canDo_120 rfl rfl rfl ?_
      refine me_iload_n (pc' := 122) (i := 3) dX11_canDo_121 rfl rfl rfl ?_
      refine me_callV (As := [.int x2, .int x4]) (st := []) (F' := (mm_Sq q)) (G' := (mm_Sq q)) (F'' := (mm_Sq q)) (pc' := 125) dX11_canDo_122 rfl mfX11_canIssue rfl lkX11_229 kd_352 rfl (mm_ltm kd_352 hN) ⟨Nat.le_of_ble_eq_true rfl, Nat.le_of_ble_eq_true rfl⟩ (Nat.le_of_ble_eq_true rfl) (fun z => z) (rX11_canIssue (q := q) x2 x4 h hN) (fun x17 e18 => Or.inl ⟨_, _, rfl, fun z => z, ?_⟩)
      show mm_E2 _ _ _ _ _ [.int (mx_bi x17)] h _ _
      refine me_ifB_eq (pc' := 128) (tgt := 132) dX11_canDo_125 (by decide) rfl (fun c19 => ?_) (fun c19 => ?_)
      · refine me_iconst (pc' := 133) (v := 0) dX11_canDo_132 rfl kc_i0 ?_
        exact me_zret (b := false) dX11_canDo_133 rfl (fun z => z) rfl
      · refine me_iconst (pc' := 129) (v := 1) dX11_canDo_128 rfl kc_i1 ?_
        refine me_goto (tgt := 133) dX11_canDo_129 (by decide) ?_
        exact me_zret (b := true) dX11_canDo_133 rfl (fun z => z) rfl
  refine mm_if (fun c20 => ?_) (fun c20 => ?_)
  · refine me_tsw c20 dX11_canDo_34 (by decide) (by decide) (tgt := 134) (off := 100) (by decide) (by decide) ?_
    refine me_iload_n (pc' := 135) (i := 3) dX11_canDo_134 rfl rfl rfl ?_
    refine me_iconst (pc' := 136) (v := 1) dX11_canDo_135 rfl kc_i1 ?_
    refine me_icmp_lt (pc' := 139) (tgt := 165) dX11_canDo_136 (by decide) rfl (fun c21 => ?_) (fun c21 => ?_)
    · refine me_iconst (pc' := 166) (v := 0) dX11_canDo_165 rfl kc_i0 ?_
      exact me_zret (b := false) dX11_canDo_166 rfl (fun z => z) rfl
    · refine me_iload (pc' := 141) (i := 4) dX11_canDo_139 rfl rfl ?_
      refine me_aload_n (pc' := 142) (i := 0) dX11_canDo_141 rfl rfl rfl ?_
      refine me_getR (pc' := 145) (q' := 353) dX11_canDo_142 rfl fkX11_13 kd_352 (mm_ltm kd_352 hN) rfl (mrX11_0 hN) ?_
      refine me_iconst (pc' := 146) (v := 0) dX11_canDo_145 rfl kc_i0 ?_
      refine mm_guard (fun c22 => ?_)
      refine me_iald (pc' := 147) dX11_canDo_146 rfl kd_353 (mm_ltm kd_353 hN) (mm_ibd_of c22) ?_
      refine me_icmp_lt (pc' := 150) (tgt := 165) dX11_canDo_147 (by decide) rfl (fun c23 => ?_) (fun c23 => ?_)
      · refine me_iconst (pc' := 166) (v := 0) dX11_canDo_165 rfl kc_i0 ?_
        exact me_zret (b := false) dX11_canDo_166 rfl (fun z => z) rfl
      · refine me_aload_n (pc' := 151) (i := 0) dX11_canDo_150 rfl rfl rfl ?_
        refine me_iload_n (pc' := 152) (i := 2) dX11_canDo_151 rfl rfl rfl ?_
        refine me_iload_n (pc' := 153) (i := 3) dX11_canDo_152 rfl rfl rfl ?_
        refine me_iload (pc' := 155) (i := 4) dX11_canDo_153 rfl rfl ?_
        refine me_callV (As := [.int x2, .int x4, .int x6]) (st := []) (F' := (mm_Sq q)) (G' := (mm_Sq q)) (F'' := (mm_Sq q)) (pc' := 158) dX11_canDo_155 rfl mfX11_canReserve rfl lkX11_232 kd_352 rfl (mm_ltm kd_352 hN) ⟨Nat.le_of_ble_eq_true rfl, Nat.le_of_ble_eq_true rfl⟩ (Nat.le_of_ble_eq_true rfl) (fun z => z) (rX11_canReserve (q := q) x2 x4 x6 h hN) (fun x24 e25 => Or.inl ⟨_, _, rfl, fun z => z, ?_⟩)
        show mm_E2 _ _ _ _ _ [.int (mx_bi x24)] h _ _
        refine me_ifB_eq (pc' := 161) (tgt := 165) dX11_canDo_158 (by decide) rfl (fun c26 => ?_) (fun c26 => ?_)
        · refine me_iconst (pc' := 166) (v := 0) dX11_canDo_165 rfl kc_i0 ?_
          exact me_zret (b := false) dX11_canDo_166 rfl (fun z => z) rfl
        · refine me_iconst (pc' := 162) (v := 1) dX11_canDo_161 rfl kc_i1 ?_
          refine me_goto (tgt := 166) dX11_canDo_162 (by decide) ?_
          exact me_zret (b := true) dX11_canDo_166 rfl (fun z => z) rfl
  refine mm_if (fun c27 => ?_) (fun c27 => ?_)
  · refine me_tsw c27 dX11_canDo_34 (by decide) (by decide) (tgt := 167) (off := 133) (by decide) (by decide) ?_
    refine me_aload_n (pc' := 168) (i := 0) dX11_canDo_167 rfl rfl rfl ?_
    refine me_iload_n (pc' := 169) (i := 2) dX11_canDo_168 rfl rfl rfl ?_
    refine me_callV (As := [.int x2]) (st := []) (F' := (mm_Sq q)) (G' := (mm_Sq q)) (F'' := (mm_Sq q)) (pc' := 172) dX11_canDo_169 rfl mfX11_isReservation rfl lkX11_235 kd_352 rfl (mm_ltm kd_352 hN) ⟨Nat.le_of_ble_eq_true rfl, Nat.le_of_ble_eq_true rfl⟩ (Nat.le_of_ble_eq_true rfl) (fun z => z) (rX11_isReservation (q := q) x2 h hN) (fun x28 e29 => Or.inl ⟨_, _, rfl, fun z => z, ?_⟩)
    show mm_E2 _ _ _ _ _ [.int (mx_bi x28)] h _ _
    refine me_ifB_eq (pc' := 175) (tgt := 187) dX11_canDo_172 (by decide) rfl (fun c30 => ?_) (fun c30 => ?_)
    · refine me_iconst (pc' := 188) (v := 0) dX11_canDo_187 rfl kc_i0 ?_
      exact me_zret (b := false) dX11_canDo_188 rfl (fun z => z) rfl
    · refine me_aload_n (pc' := 176) (i := 0) dX11_canDo_175 rfl rfl rfl ?_
      refine me_iload_n (pc' := 177) (i := 2) dX11_canDo_176 rfl rfl rfl ?_
      refine me_callV (As := [.int x2]) (st := []) (F' := (mm_Sq q)) (G' := (mm_Sq q)) (F'' := (mm_Sq q)) (pc' := 180) dX11_canDo_177 rfl mfX11_shippingReason rfl lkX11_238 kd_352 rfl (mm_ltm kd_352 hN) ⟨Nat.le_of_ble_eq_true rfl, Nat.le_of_ble_eq_true rfl⟩ (Nat.le_of_ble_eq_true rfl) (fun z => z) (rX11_shippingReason (q := q) x2 h hN) (fun x31 e32 => Or.inl ⟨_, _, rfl, fun z => z, ?_⟩)
      show mm_E2 _ _ _ _ _ [.int x31] h _ _
      refine me_if_ne (pc' := 183) (tgt := 187) dX11_canDo_180 (by decide) rfl (fun c33 => ?_) (fun c33 => ?_)
      · refine me_iconst (pc' := 188) (v := 0) dX11_canDo_187 rfl kc_i0 ?_
        exact me_zret (b := false) dX11_canDo_188 rfl (fun z => z) rfl
      · refine me_iconst (pc' := 184) (v := 1) dX11_canDo_183 rfl kc_i1 ?_
        refine me_goto (tgt := 188) dX11_canDo_184 (by decide) ?_
        exact me_zret (b := true) dX11_canDo_188 rfl (fun z => z) rfl
  refine mm_if (fun c34 => ?_) (fun c34 => ?_)
  · refine me_tsw c34 dX11_canDo_34 (by decide) (by decide) (tgt := 189) (off := 155) (by decide) (by decide) ?_
    refine me_aload_n (pc' := 190) (i := 0) dX11_canDo_189 rfl rfl rfl ?_
    refine me_iload_n (pc' := 191) (i := 2) dX11_canDo_190 rfl rfl rfl ?_
    refine me_callV (As := [.int x2]) (st := []) (F' := (mm_Sq q)) (G' := (mm_Sq q)) (F'' := (mm_Sq q)) (pc' := 194) dX11_canDo_191 rfl mfX11_isReservation rfl lkX11_235 kd_352 rfl (mm_ltm kd_352 hN) ⟨Nat.le_of_ble_eq_true rfl, Nat.le_of_ble_eq_true rfl⟩ (Nat.le_of_ble_eq_true rfl) (fun z => z) (rX11_isReservation (q := q) x2 h hN) (fun x35 e36 => Or.inl ⟨_, _, rfl, fun z => z, ?_⟩)
    show mm_E2 _ _ _ _ _ [.int (mx_bi x35)] h _ _
    refine me_ifB_eq (pc' := 197) (tgt := 209) dX11_canDo_194 (by decide) rfl (fun c37 => ?_) (fun c37 => ?_)
    · refine me_iconst (pc' := 210) (v := 0) dX11_canDo_209 rfl kc_i0 ?_
      exact me_zret (b := false) dX11_canDo_210 rfl (fun z => z) rfl
    · refine me_aload_n (pc' := 198) (i := 0) dX11_canDo_197 rfl rfl rfl ?_
      refine me_iload_n (pc' := 199) (i := 2) dX11_canDo_198 rfl rfl rfl ?_
      refine me_callV (As := [.int x2]) (st := []) (F' := (mm_Sq q)) (G' := (mm_Sq q)) (F'' := (mm_Sq q)) (pc' := 202) dX11_canDo_199 rfl mfX11_isOpenOne rfl lkX11_87 kd_352 rfl (mm_ltm kd_352 hN) ⟨Nat.le_of_ble_eq_true rfl, Nat.le_of_ble_eq_true rfl⟩ (Nat.le_of_ble_eq_true rfl) (fun z => z) (rX11_isOpenOne (q := q) x2 h hN) (fun x38 e39 => Or.inl ⟨_, _, rfl, fun z => z, ?_⟩)
      show mm_E2 _ _ _ _ _ [.int (mx_bi x38)] h _ _
      refine me_ifB_eq (pc' := 205) (tgt := 209) dX11_canDo_202 (by decide) rfl (fun c40 => ?_) (fun c40 => ?_)
      · refine me_iconst (pc' := 210) (v := 0) dX11_canDo_209 rfl kc_i0 ?_
        exact me_zret (b := false) dX11_canDo_210 rfl (fun z => z) rfl
      · refine me_iconst (pc' := 206) (v := 1) dX11_canDo_205 rfl kc_i1 ?_
        refine me_goto (tgt := 210) dX11_canDo_206 (by decide) ?_
        exact me_zret (b := true) dX11_canDo_210 rfl (fun z => z) rfl
  refine mm_if (fun c41 => ?_) (fun c41 => ?_)
  · refine me_tsw c41 dX11_canDo_34 (by decide) (by decide) (tgt := 189) (off := 155) (by decide) (by decide) ?_
    refine me_aload_n (pc' := 190) (i := 0) dX11_canDo_189 rfl rfl rfl ?_
    refine me_iload_n (pc' := 191) (i := 2) dX11_canDo_190 rfl rfl rfl ?_
    refine me_callV (As := [.int x2]) (st := []) (F' := (mm_Sq q)) (G' := (mm_Sq q)) (F'' := (mm_Sq q)) (pc' := 194) dX11_canDo_191 rfl mfX11_isReservation rfl lkX11_235 kd_352 rfl (mm_ltm kd_352 hN) ⟨Nat.le_of_ble_eq_true rfl, Nat.le_of_ble_eq_true rfl⟩ (Nat.le_of_ble_eq_true rfl) (fun z => z) (rX11_isReservation (q := q) x2 h hN) (fun x42 e43 => Or.inl ⟨_, _, rfl, fun z => z, ?_⟩)
    show mm_E2 _ _ _ _ _ [.int (mx_bi x42)] h _ _
    refine me_ifB_eq (pc' := 197) (tgt := 209) dX11_canDo_194 (by decide) rfl (fun c44 => ?_) (fun c44 => ?_)
    · refine me_iconst (pc' := 210) (v := 0) dX11_canDo_209 rfl kc_i0 ?_
      exact me_zret (b := false) dX11_canDo_210 rfl (fun z => z) rfl
    · refine me_aload_n (pc' := 198) (i := 0) dX11_canDo_197 rfl rfl rfl ?_
      refine me_iload_n (pc' := 199) (i := 2) dX11_canDo_198 rfl rfl rfl ?_
      refine me_callV (As := [.int x2]) (st := []) (F' := (mm_Sq q)) (G' := (mm_Sq q)) (F'' := (mm_Sq q)) (pc' := 202) dX11_canDo_199 rfl mfX11_isOpenOne rfl lkX11_87 kd_352 rfl (mm_ltm kd_352 hN) ⟨Nat.le_of_ble_eq_true rfl, Nat.le_of_ble_eq_true rfl⟩ (Nat.le_of_ble_eq_true rfl) (fun z => z) (rX11_isOpenOne (q := q) x2 h hN) (fun x45 e46 => Or.inl ⟨_, _, rfl, fun z => z, ?_⟩)
      show mm_E2 _ _ _ _ _ [.int (mx_bi x45)] h _ _
      refine me_ifB_eq (pc' := 205) (tgt := 209) dX11_canDo_202 (by decide) rfl (fun c47 => ?_) (fun c47 => ?_)
      · refine me_iconst (pc' := 210) (v := 0) dX11_canDo_209 rfl kc_i0 ?_
        exact me_zret (b := false) dX11_canDo_210 rfl (fun z => z) rfl
      · refine me_iconst (pc' := 206) (v := 1) dX11_canDo_205 rfl kc_i1 ?_
        refine me_goto (tgt := 210) dX11_canDo_206 (by decide) ?_
        exact me_zret (b := true) dX11_canDo_210 rfl (fun z => z) rfl
  refine mm_if (fun c48 => ?_) (fun c48 => ?_)
  · refine me_tsw c48 dX11_canDo_34 (by decide) (by decide) (tgt := 211) (off := 177) (by decide) (by decide) ?_
    refine me_aload_n (pc' := 212) (i := 0) dX11_canDo_211 rfl rfl rfl ?_
    refine me_iload_n (pc' := 213) (i := 2) dX11_canDo_212 rfl rfl rfl ?_
    refine me_callV (As := [.int x2]) (st := []) (F' := (mm_Sq q)) (G' := (mm_Sq q)) (F'' := (mm_Sq q)) (pc' := 216) dX11_canDo_213 rfl mfX11_isBatch rfl lkX11_241 kd_352 rfl (mm_ltm kd_352 hN) ⟨Nat.le_of_ble_eq_true rfl, Nat.le_of_ble_eq_true rfl⟩ (Nat.le_of_ble_eq_true rfl) (fun z => z) (rX11_isBatch (q := q) x2 h hN) (fun x49 e50 => Or.inl ⟨_, _, rfl, fun z => z, ?_⟩)
    show mm_E2 _ _ _ _ _ [.int (mx_bi x49)] h _ _
    refine me_ifB_eq (pc' := 219) (tgt := 239) dX11_canDo_216 (by decide) rfl (fun c51 => ?_) (fun c51 => ?_)
    · refine me_iconst (pc' := 240) (v := 0) dX11_canDo_239 rfl kc_i0 ?_
      exact me_zret (b := false) dX11_canDo_240 rfl (fun z => z) rfl
    · refine me_iload_n (pc' := 220) (i := 3) dX11_canDo_219 rfl rfl rfl ?_
      refine me_sipush (pc' := 223) (v := 999) dX11_canDo_220 rfl kc_s999 ?_
      refine me_icmp_gt (pc' := 226) (tgt := 239) dX11_canDo_223 (by decide) rfl (fun c52 => ?_) (fun c52 => ?_)
      · refine me_iconst (pc' := 240) (v := 0) dX11_canDo_239 rfl kc_i0 ?_
        exact me_zret (b := false) dX11_canDo_240 rfl (fun z => z) rfl
      · refine me_iload_n (pc' := 227) (i := 3) dX11_canDo_226 rfl rfl rfl ?_
        refine me_aload_n (pc' := 228) (i := 0) dX11_canDo_227 rfl rfl rfl ?_
        refine me_iload_n (pc' := 229) (i := 2) dX11_canDo_228 rfl rfl rfl ?_
        refine me_callV (As := [.int x2]) (st := [.int x4]) (F' := (mm_Sq q)) (G' := (mm_Sq q)) (F'' := (mm_Sq q)) (pc' := 232) dX11_canDo_229 rfl mfX11_held rfl lkX11_94 kd_352 rfl (mm_ltm kd_352 hN) ⟨Nat.le_of_ble_eq_true rfl, Nat.le_of_ble_eq_true rfl⟩ (Nat.le_of_ble_eq_true rfl) (fun z => z) (rX11_held (q := q) x2 h hN) (fun x53 e54 => Or.inl ⟨_, _, rfl, fun z => z, ?_⟩)
        show mm_E2 _ _ _ _ _ [.int x53, .int x4] h _ _
        refine me_icmp_lt (pc' := 235) (tgt := 239) dX11_canDo_232 (by decide) rfl (fun c55 => ?_) (fun c55 => ?_)
        · refine me_iconst (pc' := 240) (v := 0) dX11_canDo_239 rfl kc_i0 ?_
          exact me_zret (b := false) dX11_canDo_240 rfl (fun z => z) rfl
        · refine me_iconst (pc' := 236) (v := 1) dX11_canDo_235 rfl kc_i1 ?_
          refine me_goto (tgt := 240) dX11_canDo_236 (by decide) ?_
          exact me_zret (b := true) dX11_canDo_240 rfl (fun z => z) rfl
  refine mm_if (fun c56 => ?_) (fun c56 => ?_)
  · refine me_tsw c56 dX11_canDo_34 (by decide) (by decide) (tgt := 241) (off := 207) (by decide) (by decide) ?_
    refine me_iconst (pc' := 242) (v := 1) dX11_canDo_241 rfl kc_i1 ?_
    exact me_zret (b := true) dX11_canDo_242 rfl (fun z => z) rfl
  refine me_tableOut (tgt := 243) dX11_canDo_34 (mm_out7 c8 c15 c20 c27 c34 c41 c48 c56) (by decide) ?_
  refine me_iload_n (pc' := 244) (i := 2) dX11_canDo_243 rfl rfl rfl ?_
  refine me_iconst (pc' := 245) (v := 1) dX11_canDo_244 rfl kc_i1 ?_
  refine me_sipush (pc' := 248) (v := 999) dX11_canDo_245 rfl kc_s999 ?_
  refine me_callS (As := [.int x2, .int 1, .int 999]) (st := []) (F' := (mm_Sq q)) (G' := (mm_Sq q)) (F'' := (mm_Sq q)) (pc' := 251) dX11_canDo_248 rfl mfX11_in rfl lkX11_75 ⟨Nat.le_of_ble_eq_true rfl, Nat.le_of_ble_eq_true rfl⟩ (Nat.le_of_ble_eq_true rfl) (fun z => z) (rX11_in (q := q) x2 1 999 h hN) (fun x57 e58 => Or.inl ⟨_, _, rfl, fun z => z, ?_⟩)
  show mm_E2 _ _ _ _ _ [.int (mx_bi x57)] h _ _
  refine me_ifB_eq (pc' := 254) (tgt := 272) dX11_canDo_251 (by decide) rfl (fun c59 => ?_) (fun c59 => ?_)
  · refine me_iconst (pc' := 273) (v := 0) dX11_canDo_272 rfl kc_i0 ?_
    exact me_zret (b := false) dX11_canDo_273 rfl (fun z => z) rfl
  · refine me_aload_n (pc' := 255) (i := 0) dX11_canDo_254 rfl rfl rfl ?_
    refine me_getR (pc' := 258) (q' := 353) dX11_canDo_255 rfl fkX11_13 kd_352 (mm_ltm kd_352 hN) rfl (mrX11_0 hN) ?_
    refine me_iconst (pc' := 259) (v := 0) dX11_canDo_258 rfl kc_i0 ?_
    refine mm_guard (fun c60 => ?_)
    refine me_iald (pc' := 260) dX11_canDo_259 rfl kd_353 (mm_ltm kd_353 hN) (mm_ibd_of c60) ?_
    refine me_iload_n (pc' := 261) (i := 2) dX11_canDo_260 rfl rfl rfl ?_
    refine me_iadd (pc' := 262) dX11_canDo_261 rfl ?_
    refine me_sipush (pc' := 265) (v := 9999) dX11_canDo_262 rfl kc_s9999 ?_
    refine me_icmp_gt (pc' := 268) (tgt := 272) dX11_canDo_265 (by decide) rfl (fun c61 => ?_) (fun c61 => ?_)
    · refine me_iconst (pc' := 273) (v := 0) dX11_canDo_272 rfl kc_i0 ?_
      exact me_zret (b := false) dX11_canDo_273 rfl (fun z => z) rfl
    · refine me_iconst (pc' := 269) (v := 1) dX11_canDo_268 rfl kc_i1 ?_
      refine me_goto (tgt := 273) dX11_canDo_269 (by decide) ?_
      exact me_zret (b := true) dX11_canDo_273 rfl (fun z => z) rfl
def gX11_doIt (p0 : Int32) (h : mm_H) : Option mm_H :=
if mm_ibd ((p0 + 1)) 150 = true then
(some ((mh_I h 357 (Int32.toNatClampNeg ((p0 + 1)))))).bind (fun (x2 : Int32) =>
if mm_ibd ((p0 + 2)) 150 = true then
(some ((mh_I h 357 (Int32.toNatClampNeg ((p0 + 2)))))).bind (fun (x4 : Int32) =>
if mm_ibd ((p0 + 3)) 150 = true then
(some ((mh_I h 357 (Int32.toNatClampNeg ((p0 + 3)))))).bind (fun (x6 : Int32) =>
if mm_ibd p0 150 = true then
if (mh_I h 357 (Int32.toNatClampNeg (p0))) = 0 then
if mm_ibd ((p0 + 4)) 150 = true then
(gX11_receiveIt x2 x4 x6 ((mh_I h 357 (Int32.toNatClampNeg ((p0 + 4))))) h).bind (fun (x10 : (Int32 × mm_H)) =>
some x10.2) else none
else
if (mh_I h 357 (Int32.toNatClampNeg (p0))) = 1 then
if mm_ibd 0 4200 = true then
(gX11_takeOut x2 x4 ((mh_I h 353 (Int32.toNatClampNeg (0)))) h).bind (fun (x14 : (Int32 × mm_H)) =>
some x14.2) else none
else
if (mh_I h 357 (Int32.toNatClampNeg (p0))) = 2 then
(gX11_reserveIt x2 x4 x6 h).bind (fun (x17 : (Int32 × mm_H)) =>
some x17.2)
else
if (mh_I h 357 (Int32.toNatClampNeg (p0))) = 3 then
(gX11_shipIt x2 h).bind (fun (x20 : (Int32 × mm_H)) =>
some x20.2)
else
if (mh_I h 357 (Int32.toNatClampNeg (p0))) = 4 then
(gX11_cancelIt x2 h).bind (fun (x23 : (Int32 × mm_H)) =>
some x23.2)
else
if (mh_I h 357 (Int32.toNatClampNeg (p0))) = 5 then
(gX11_refillIt x2 h).bind (fun (x26 : (Int32 × mm_H)) =>
some x26.2)
else
if (mh_I h 357 (Int32.toNatClampNeg (p0))) = 6 then
(gX11_countIt x2 x4 h).bind (fun (x29 : (Int32 × mm_H)) =>
some x29.2)
else
if (mh_I h 357 (Int32.toNatClampNeg (p0))) = 7 then
(gX11_writeOff h).bind (fun (x32 : (Int32 × mm_H)) =>
some x32.2)
else
(gX11_daysIt x2 h).bind (fun (x34 : (Int32 × mm_H)) =>
some x34.2) else none) else none) else none) else none
theorem rX11_doIt {q : Nat × Nat} (p0 : Int32) (h : mm_H) (hN : 358 ≤ q.1) : mm_R2 (mm_Sq q) (mm_Sq q) mX11_doIt [.ref 352, .int p0] h (gX11_doIt p0 h) lf_v := by
  refine mm_body (L := [some (.ref 352), some (.int p0), none, none, none]) rfl (by decide +kernel) (Nat.le_of_ble_eq_true rfl) rfl ?_
  unfold gX11_doIt
  refine me_aload_n (pc' := 1) (i := 0) dX11_doIt_0 rfl rfl rfl ?_
  refine me_getR (pc' := 4) (q' := 357) dX11_doIt_1 rfl fkX11_54 kd_352 (mm_ltm kd_352 hN) rfl (mrX11_14 hN) ?_
  refine me_iload_n (pc' := 5) (i := 1) dX11_doIt_4 rfl rfl rfl ?_
  refine me_iconst (pc' := 6) (v := 1) dX11_doIt_5 rfl kc_i1 ?_
  refine me_iadd (pc' := 7) dX11_doIt_6 rfl ?_
  refine mm_guard (fun c1 => ?_)
  refine me_iald (pc' := 8) dX11_doIt_7 rfl kd_357 (mm_ltm kd_357 hN) (mm_ibd_of c1) ?_
  refine mm_bnd ((mh_I h 357 (Int32.toNatClampNeg ((p0 + 1))))) (fun x2 => [some (.ref 352), some (.int p0), none, none, none]) (fun x2 => [.int x2]) (fun _ => h) (fun x2 => ?_)
  refine me_istore_n (pc' := 9) (i := 2) (L' := [some (.ref 352), some (.int p0), some (.int x2), none, none]) dX11_doIt_8 rfl rfl (Nat.le_of_ble_eq_true rfl) (Nat.le_of_ble_eq_true rfl) rfl ?_
  refine me_aload_n (pc' := 10) (i := 0) dX11_doIt_9 rfl rfl rfl ?_
  refine me_getR (pc' := 13) (q' := 357) dX11_doIt_10 rfl fkX11_54 kd_352 (mm_ltm kd_352 hN) rfl (mrX11_14 hN) ?_
  refine me_iload_n (pc' := 14) (i := 1) dX11_doIt_13 rfl rfl rfl ?_
  refine me_iconst (pc' := 15) (v := 2) dX11_doIt_14 rfl kc_i2 ?_
  refine me_iadd (pc' := 16) dX11_doIt_15 rfl ?_
  refine mm_guard (fun c3 => ?_)
  refine me_iald (pc' := 17) dX11_doIt_16 rfl kd_357 (mm_ltm kd_357 hN) (mm_ibd_of c3) ?_
  refine mm_bnd ((mh_I h 357 (Int32.toNatClampNeg ((p0 + 2))))) (fun x4 => [some (.ref 352), some (.int p0), some (.int x2), none, none]) (fun x4 => [.int x4]) (fun _ => h) (fun x4 => ?_)
  refine me_istore_n (pc' := 18) (i := 3) (L' := [some (.ref 352), some (.int p0), some (.int x2), some (.int x4), none]) dX11_doIt_17 rfl rfl (Nat.le_of_ble_eq_true rfl) (Nat.le_of_ble_eq_true rfl) rfl ?_
  refine me_aload_n (pc' := 19) (i := 0) dX11_doIt_18 rfl rfl rfl ?_
  refine me_getR (pc' := 22) (q' := 357) dX11_doIt_19 rfl fkX11_54 kd_352 (mm_ltm kd_352 hN) rfl (mrX11_14 hN) ?_
  refine me_iload_n (pc' := 23) (i := 1) dX11_doIt_22 rfl rfl rfl ?_
  refine me_iconst (pc' := 24) (v := 3) dX11_doIt_23 rfl kc_i3 ?_
  refine me_iadd (pc' := 25) dX11_doIt_24 rfl ?_
  refine mm_guard (fun c5 => ?_)
  refine me_iald (pc' := 26) dX11_doIt_25 rfl kd_357 (mm_ltm kd_357 hN) (mm_ibd_of c5) ?_
  refine mm_bnd ((mh_I h 357 (Int32.toNatClampNeg ((p0 + 3))))) (fun x6 => [some (.ref 352), some (.int p0), some (.int x2), some (.int x4), none]) (fun x6 => [.int x6]) (fun _ => h) (fun x6 => ?_)
  refine me_istore (pc' := 28) (i := 4) (L' := [some (.ref 352), some (.int p0), some (.int x2), some (.int x4), some (.int x6)]) dX11_doIt_26 rfl (Nat.le_of_ble_eq_true rfl) (Nat.le_of_ble_eq_true rfl) rfl ?_
  refine me_aload_n (pc' := 29) (i := 0) dX11_doIt_28 rfl rfl rfl ?_
  refine me_getR (pc' := 32) (q' := 357) dX11_doIt_29 rfl fkX11_54 kd_352 (mm_ltm kd_352 hN) rfl (mrX11_14 hN) ?_
  refine me_iload_n (pc' := 33) (i := 1) dX11_doIt_32 rfl rfl rfl ?_
  refine mm_guard (fun c7 => ?_)
  refine me_iald (pc' := 34) dX11_doIt_33 rfl kd_357 (mm_ltm kd_357 hN) (mm_ibd_of c7) ?_
  refine mm_if (fun c8 => ?_) (fun c8 => ?_)
  · refine me_tsw c8 dX11_doIt_34 (by decide) (by decide) (tgt := 80) (off := 46) (by decide) (by decide) ?_
    refine me_aload_n (pc' := 81) (i := 0) dX11_doIt_80 rfl rfl rfl ?_
    refine me_iload_n (pc' := 82) (i := 2) dX11_doIt_81 rfl rfl rfl ?_
    refine me_iload_n (pc' := 83) (i := 3) dX11_doIt_82 rfl rfl rfl ?_
    refine me_iload (pc' := 85) (i := 4) dX11_doIt_83 rfl rfl ?_
    refine me_aload_n (pc' := 86) (i := 0) dX11_doIt_85 rfl rfl rfl ?_
    refine me_getR (pc' := 89) (q' := 357) dX11_doIt_86 rfl fkX11_54 kd_352 (mm_ltm kd_352 hN) rfl (mrX11_14 hN) ?_
    refine me_iload_n (pc' := 90) (i := 1) dX11_doIt_89 rfl rfl rfl ?_
    refine me_iconst (pc' := 91) (v := 4) dX11_doIt_90 rfl kc_i4 ?_
    refine me_iadd (pc' := 92) dX11_doIt_91 rfl ?_
    refine mm_guard (fun c9 => ?_)
    refine me_iald (pc' := 93) dX11_doIt_92 rfl kd_357 (mm_ltm kd_357 hN) (mm_ibd_of c9) ?_
    refine me_callV (As := [.int x2, .int x4, .int x6, .int (mh_I h 357 (Int32.toNatClampNeg ((p0 + 4))))]) (st := []) (F' := (mm_Sq q)) (G' := (mm_Sq q)) (F'' := (mm_Sq q)) (pc' := 96) dX11_doIt_93 rfl mfX11_receiveIt rfl lkX11_175 kd_352 rfl (mm_ltm kd_352 hN) ⟨Nat.le_of_ble_eq_true rfl, Nat.le_of_ble_eq_true rfl⟩ (Nat.le_of_ble_eq_true rfl) (fun z => z) (rX11_receiveIt (q := q) x2 x4 x6 ((mh_I h 357 (Int32.toNatClampNeg ((p0 + 4))))) h hN) (fun x10 e11 => Or.inl ⟨_, _, rfl, fun z => z, ?_⟩)
    show mm_E2 _ _ _ _ _ [.int x10.1] x10.2 _ _
    refine me_pop (pc' := 97) dX11_doIt_96 rfl rfl ?_
    refine me_goto (tgt := 179) dX11_doIt_97 (by decide) ?_
    exact me_vret dX11_doIt_179 rfl (fun z => z) rfl
  refine mm_if (fun c12 => ?_) (fun c12 => ?_)
  · refine me_tsw c12 dX11_doIt_34 (by decide) (by decide) (tgt := 100) (off := 66) (by decide) (by decide) ?_
    refine me_aload_n (pc' := 101) (i := 0) dX11_doIt_100 rfl rfl rfl ?_
    refine me_iload_n (pc' := 102) (i := 2) dX11_doIt_101 rfl rfl rfl ?_
    refine me_iload_n (pc' := 103) (i := 3) dX11_doIt_102 rfl rfl rfl ?_
    refine me_aload_n (pc' := 104) (i := 0) dX11_doIt_103 rfl rfl rfl ?_
    refine me_getR (pc' := 107) (q' := 353) dX11_doIt_104 rfl fkX11_13 kd_352 (mm_ltm kd_352 hN) rfl (mrX11_0 hN) ?_
    refine me_iconst (pc' := 108) (v := 0) dX11_doIt_107 rfl kc_i0 ?_
    refine mm_guard (fun c13 => ?_)
    refine me_iald (pc' := 109) dX11_doIt_108 rfl kd_353 (mm_ltm kd_353 hN) (mm_ibd_of c13) ?_
    refine me_callV (As := [.int x2, .int x4, .int (mh_I h 353 (Int32.toNatClampNeg (0)))]) (st := []) (F' := (mm_Sq q)) (G' := (mm_Sq q)) (F'' := (mm_Sq q)) (pc' := 112) dX11_doIt_109 rfl mfX11_takeOut rfl lkX11_244 kd_352 rfl (mm_ltm kd_352 hN) ⟨Nat.le_of_ble_eq_true rfl, Nat.le_of_ble_eq_true rfl⟩ (Nat.le_of_ble_eq_true rfl) (fun z => z) (rX11_takeOut (q := q) x2 x4 ((mh_I h 353 (Int32.toNatClampNeg (0)))) h hN) (fun x14 e15 => Or.inl ⟨_, _, rfl, fun z => z, ?_⟩)
    show mm_E2 _ _ _ _ _ [.int x14.1] x14.2 _ _
    refine me_pop (pc' := 113) dX11_doIt_112 rfl rfl ?_
    refine me_goto (tgt := 179) dX11_doIt_113 (by decide) ?_
    exact me_vret dX11_doIt_179 rfl (fun z => z) rfl
  refine mm_if (fun c16 => ?_) (fun c16 => ?_)
  · refine me_tsw c16 dX11_doIt_34 (by decide) (by decide) (tgt := 116) (off := 82) (by decide) (by decide) ?_
    refine me_aload_n (pc' := 117) (i := 0) dX11_doIt_116 rfl rfl rfl ?_
    refine me_iload_n (pc' := 118) (i := 2) dX11_doIt_117 rfl rfl rfl ?_
    refine me_iload_n (pc' := 119) (i := 3) dX11_doIt_118 rfl rfl rfl ?_
    refine me_iload (pc' := 121) (i := 4) dX11_doIt_119 rfl rfl ?_
    refine me_callV (As := [.int x2, .int x4, .int x6]) (st := []) (F' := (mm_Sq q)) (G' := (mm_Sq q)) (F'' := (mm_Sq q)) (pc' := 124) dX11_doIt_121 rfl mfX11_reserveIt rfl lkX11_247 kd_352 rfl (mm_ltm kd_352 hN) ⟨Nat.le_of_ble_eq_true rfl, Nat.le_of_ble_eq_true rfl⟩ (Nat.le_of_ble_eq_true rfl) (fun z => z) (rX11_reserveIt (q := q) x2 x4 x6 h hN) (fun x17 e18 => Or.inl ⟨_, _, rfl, fun z => z, ?_⟩)
    show mm_E2 _ _ _ _ _ [.int x17.1] x17.2 _ _
    refine me_pop (pc' := 125) dX11_doIt_124 rfl rfl ?_
    refine me_goto (tgt := 179) dX11_doIt_125 (by decide) ?_
    exact me_vret dX11_doIt_179 rfl (fun z => z) rfl
  refine mm_if (fun c19 => ?_) (fun c19 => ?_)
  · refine me_tsw c19 dX11_doIt_34 (by decide) (by decide) (tgt := 128) (off := 94) (by decide) (by decide) ?_
    refine me_aload_n (pc' := 129) (i := 0) dX11_doIt_128 rfl rfl rfl ?_
    refine me_iload_n (pc' := 130) (i := 2) dX11_doIt_129 rfl rfl rfl ?_
    refine me_callV (As := [.int x2]) (st := []) (F' := (mm_Sq q)) (G' := (mm_Sq q)) (F'' := (mm_Sq q)) (pc' := 133) dX11_doIt_130 rfl mfX11_shipIt rfl lkX11_250 kd_352 rfl (mm_ltm kd_352 hN) ⟨Nat.le_of_ble_eq_true rfl, Nat.le_of_ble_eq_true rfl⟩ (Nat.le_of_ble_eq_true rfl) (fun z => z) (rX11_shipIt (q := q) x2 h hN) (fun x20 e21 => Or.inl ⟨_, _, rfl, fun z => z, ?_⟩)
    show mm_E2 _ _ _ _ _ [.int x20.1] x20.2 _ _
    refine me_pop (pc' := 134) dX11_doIt_133 rfl rfl ?_
    refine me_goto (tgt := 179) dX11_doIt_134 (by decide) ?_
    exact me_vret dX11_doIt_179 rfl (fun z => z) rfl
  refine mm_if (fun c22 => ?_) (fun c22 => ?_)
  · refine me_tsw c22 dX11_doIt_34 (by decide) (by decide) (tgt := 137) (off := 103) (by decide) (by decide) ?_
    refine me_aload_n (pc' := 138) (i := 0) dX11_doIt_137 rfl rfl rfl ?_
    refine me_iload_n (pc' := 139) (i := 2) dX11_doIt_138 rfl rfl rfl ?_
    refine me_callV (As := [.int x2]) (st := []) (F' := (mm_Sq q)) (G' := (mm_Sq q)) (F'' := (mm_Sq q)) (pc' := 142) dX11_doIt_139 rfl mfX11_cancelIt rfl lkX11_253 kd_352 rfl (mm_ltm kd_352 hN) ⟨Nat.le_of_ble_eq_true rfl, Nat.le_of_ble_eq_true rfl⟩ (Nat.le_of_ble_eq_true rfl) (fun z => z) (rX11_cancelIt (q := q) x2 h hN) (fun x23 e24 => Or.inl ⟨_, _, rfl, fun z => z, ?_⟩)
    show mm_E2 _ _ _ _ _ [.int x23.1] x23.2 _ _
    refine me_pop (pc' := 143) dX11_doIt_142 rfl rfl ?_
    refine me_goto (tgt := 179) dX11_doIt_143 (by decide) ?_
    exact me_vret dX11_doIt_179 rfl (fun z => z) rfl
  refine mm_if (fun c25 => ?_) (fun c25 => ?_)
  · refine me_tsw c25 dX11_doIt_34 (by decide) (by decide) (tgt := 146) (off := 112) (by decide) (by decide) ?_
    refine me_aload_n (pc' := 147) (i := 0) dX11_doIt_146 rfl rfl rfl ?_
    refine me_iload_n (pc' := 148) (i := 2) dX11_doIt_147 rfl rfl rfl ?_
    refine me_callV (As := [.int x2]) (st := []) (F' := (mm_Sq q)) (G' := (mm_Sq q)) (F'' := (mm_Sq q)) (pc' := 151) dX11_doIt_148 rfl mfX11_refillIt rfl lkX11_256 kd_352 rfl (mm_ltm kd_352 hN) ⟨Nat.le_of_ble_eq_true rfl, Nat.le_of_ble_eq_true rfl⟩ (Nat.le_of_ble_eq_true rfl) (fun z => z) (rX11_refillIt (q := q) x2 h hN) (fun x26 e27 => Or.inl ⟨_, _, rfl, fun z => z, ?_⟩)
    show mm_E2 _ _ _ _ _ [.int x26.1] x26.2 _ _
    refine me_pop (pc' := 152) dX11_doIt_151 rfl rfl ?_
    refine me_goto (tgt := 179) dX11_doIt_152 (by decide) ?_
    exact me_vret dX11_doIt_179 rfl (fun z => z) rfl
  refine mm_if (fun c28 => ?_) (fun c28 => ?_)
  · refine me_tsw c28 dX11_doIt_34 (by decide) (by decide) (tgt := 155) (off := 121) (by decide) (by decide) ?_
    refine me_aload_n (pc' := 156) (i := 0) dX11_doIt_155 rfl rfl rfl ?_
    refine me_iload_n (pc' := 157) (i := 2) dX11_doIt_156 rfl rfl rfl ?_
    refine me_iload_n (pc' := 158) (i := 3) dX11_doIt_157 rfl rfl rfl ?_
    refine me_callV (As := [.int x2, .int x4]) (st := []) (F' := (mm_Sq q)) (G' := (mm_Sq q)) (F'' := (mm_Sq q)) (pc' := 161) dX11_doIt_158 rfl mfX11_countIt rfl lkX11_259 kd_352 rfl (mm_ltm kd_352 hN) ⟨Nat.le_of_ble_eq_true rfl, Nat.le_of_ble_eq_true rfl⟩ (Nat.le_of_ble_eq_true rfl) (fun z => z) (rX11_countIt (q := q) x2 x4 h hN) (fun x29 e30 => Or.inl ⟨_, _, rfl, fun z => z, ?_⟩)
    show mm_E2 _ _ _ _ _ [.int x29.1] x29.2 _ _
    refine me_pop (pc' := 162) dX11_doIt_161 rfl rfl ?_
    refine me_goto (tgt := 179) dX11_doIt_162 (by decide) ?_
    exact me_vret dX11_doIt_179 rfl (fun z => z) rfl
  refine mm_if (fun c31 => ?_) (fun c31 => ?_)
  · refine me_tsw c31 dX11_doIt_34 (by decide) (by decide) (tgt := 165) (off := 131) (by decide) (by decide) ?_
    refine me_aload_n (pc' := 166) (i := 0) dX11_doIt_165 rfl rfl rfl ?_
    refine me_callV (As := []) (st := []) (F' := (mm_Sq q)) (G' := (mm_Sq q)) (F'' := (mm_Sq q)) (pc' := 169) dX11_doIt_166 rfl mfX11_writeOff rfl lkX11_262 kd_352 rfl (mm_ltm kd_352 hN) ⟨Nat.le_of_ble_eq_true rfl, Nat.le_of_ble_eq_true rfl⟩ (Nat.le_of_ble_eq_true rfl) (fun z => z) (rX11_writeOff (q := q) h hN) (fun x32 e33 => Or.inl ⟨_, _, rfl, fun z => z, ?_⟩)
    show mm_E2 _ _ _ _ _ [.int x32.1] x32.2 _ _
    refine me_pop (pc' := 170) dX11_doIt_169 rfl rfl ?_
    refine me_goto (tgt := 179) dX11_doIt_170 (by decide) ?_
    exact me_vret dX11_doIt_179 rfl (fun z => z) rfl
  refine me_tableOut (tgt := 173) dX11_doIt_34 (mm_out7 c8 c12 c16 c19 c22 c25 c28 c31) (by decide) ?_
  refine me_aload_n (pc' := 174) (i := 0) dX11_doIt_173 rfl rfl rfl ?_
  refine me_iload_n (pc' := 175) (i := 2) dX11_doIt_174 rfl rfl rfl ?_
  refine me_callV (As := [.int x2]) (st := []) (F' := (mm_Sq q)) (G' := (mm_Sq q)) (F'' := (mm_Sq q)) (pc' := 178) dX11_doIt_175 rfl mfX11_daysIt rfl lkX11_265 kd_352 rfl (mm_ltm kd_352 hN) ⟨Nat.le_of_ble_eq_true rfl, Nat.le_of_ble_eq_true rfl⟩ (Nat.le_of_ble_eq_true rfl) (fun z => z) (rX11_daysIt (q := q) x2 h hN) (fun x34 e35 => Or.inl ⟨_, _, rfl, fun z => z, ?_⟩)
  show mm_E2 _ _ _ _ _ [.int x34.1] x34.2 _ _
  refine me_pop (pc' := 179) dX11_doIt_178 rfl rfl ?_
  exact me_vret dX11_doIt_179 rfl (fun z => z) rfl
def gX11_runScript_L42 (u14 : Int32) : Nat → Int32 → mm_H → Option (Int32 × mm_H)
  | 0, _, _ => none
  | n + 1, w15, h16 =>
    if w15 < u14 then
    (gX11_canDo ((w15 * 5)) h16).bind (fun (x18 : Bool) =>
    if x18 = true then
    (gX11_doIt ((w15 * 5)) h16).bind (fun (h21 : mm_H) =>
    (some (w15 + 1)).bind (fun (x23 : Int32) =>
    gX11_runScript_L42 u14 n x23 h21))
    else
    some (w15, h16))
    else
    some (w15, h16)
def gX11_runScript (h : mm_H) : Option (Int32 × mm_H) :=
(gX11_begin h).bind (fun (h1 : mm_H) =>
(gX11_parseScript h1).bind (fun (x3 : (Int32 × mm_H)) =>
(some (ms_I x3.2 352 4 0)).bind (fun (h5 : mm_H) =>
mm_jn (fun (y6 : Int32) =>
(gX11_fails y6 0 0 h5).bind (fun (x9 : (Bool × mm_H)) =>
if x9.1 = true then
some (0, x9.2)
else
(gX11_remember 0 x9.2).bind (fun (h12 : mm_H) =>
gX11_runScript_L42 x3.1 mm_F 0 h12))) (fun (j8 : Int32 → Option (Int32 × mm_H)) =>
if x3.1 = (-1) then
j8 1
else
j8 0))))
theorem rX11_runScript_L42 {q : Nat × Nat}  (u14 : Int32)    (hN : 358 ≤ q.1) : ∀ (n : Nat) (w15 : Int32) (h16 : mm_H), mm_E2 (mm_Sq q) (mm_Sq q) mX11_runScript 42 [some (.ref 352), some (.int u14), some (.int w15)] [] h16 (gX11_runScript_L42 u14  n w15 h16) lf_ie := by
  intro n
  induction n with
  | zero =>
    intro w15 h16
    exact mm_none
  | succ n ih =>
    intro w15 h16
    rw [gX11_runScript_L42]
    refine me_iload_n (pc' := 43) (i := 2) dX11_runScript_42 rfl rfl rfl ?_
    refine me_iload_n (pc' := 44) (i := 1) dX11_runScript_43 rfl rfl rfl ?_
    refine me_icmp_ge (pc' := 47) (tgt := 70) dX11_runScript_44 (by decide) rfl (fun c17 => ?_) (fun c17 => ?_)
    · refine me_iload_n (pc' := 71) (i := 2) dX11_runScript_70 rfl rfl rfl ?_
      exact me_iret dX11_runScript_71 rfl (fun z => z) rfl
    · refine me_aload_n (pc' := 48) (i := 0) dX11_runScript_47 rfl rfl rfl ?_
      refine me_iload_n (pc' := 49) (i := 2) dX11_runScript_48 rfl rfl rfl ?_
      refine me_iconst (pc' := 50) (v := 5) dX11_runScript_49 rfl kc_i5 ?_
      refine me_imul (pc' := 51) dX11_runScript_50 rfl ?_
      refine me_callV (As := [.int (w15 * 5)]) (st := []) (F' := (mm_Sq q)) (G' := (mm_Sq q)) (F'' := (mm_Sq q)) (pc' := 54) dX11_runScript_51 rfl mfX11_canDo rfl lkX11_274 kd_352 rfl (mm_ltm kd_352 hN) ⟨Nat.le_of_ble_eq_true rfl, Nat.le_of_ble_eq_true rfl⟩ (Nat.le_of_ble_eq_true rfl) (fun z => z) (rX11_canDo (q := q) ((w15 * 5)) h16 hN) (fun x18 e19 => Or.inl ⟨_, _, rfl, fun z => z, ?_⟩)
      show mm_E2 _ _ _ _ _ [.int (mx_bi x18)] h16 _ _
      refine me_ifB_eq (pc' := 57) (tgt := 70) dX11_runScript_54 (by decide) rfl (fun c20 => ?_) (fun c20 => ?_)
      · refine me_iload_n (pc' := 71) (i := 2) dX11_runScript_70 rfl rfl rfl ?_
        exact me_iret dX11_runScript_71 rfl (fun z => z) rfl
      · refine me_aload_n (pc' := 58) (i := 0) dX11_runScript_57 rfl rfl rfl ?_
        refine me_iload_n (pc' := 59) (i := 2) dX11_runScript_58 rfl rfl rfl ?_
        refine me_iconst (pc' := 60) (v := 5) dX11_runScript_59 rfl kc_i5 ?_
        refine me_imul (pc' := 61) dX11_runScript_60 rfl ?_
        refine me_callV (As := [.int (w15 * 5)]) (st := []) (F' := (mm_Sq q)) (G' := (mm_Sq q)) (F'' := (mm_Sq q)) (pc' := 64) dX11_runScript_61 rfl mfX11_doIt rfl lkX11_277 kd_352 rfl (mm_ltm kd_352 hN) ⟨Nat.le_of_ble_eq_true rfl, Nat.le_of_ble_eq_true rfl⟩ (Nat.le_of_ble_eq_true rfl) (fun z => z) (rX11_doIt (q := q) ((w15 * 5)) h16 hN) (fun h21 e22 => Or.inl ⟨_, _, rfl, fun z => z, ?_⟩)
        show mm_E2 _ _ _ _ _ [] h21 _ _
        refine me_iinc (pc' := 67) (i := 2) (x := w15) (y := w15 + 1) (L' := [some (.ref 352), some (.int u14), some (.int (w15 + 1))]) dX11_runScript_64 rfl (Nat.le_of_ble_eq_true rfl) (Nat.le_of_ble_eq_true rfl) rfl (kc_plus kc_i1) rfl ?_
        refine mm_bnd (w15 + 1) (fun x23 => [some (.ref 352), some (.int u14), some (.int x23)]) (fun _ => []) (fun _ => h21) (fun x23 => ?_)
        refine me_goto (tgt := 42) dX11_runScript_67 (by decide) ?_
        exact ih x23 h21
theorem rX11_runScript {q : Nat × Nat} (h : mm_H) (hN : 358 ≤ q.1) : mm_R2 (mm_Sq q) (mm_Sq q) mX11_runScript [.ref 352] h (gX11_runScript h) lf_ie := by
  refine mm_body (L := [some (.ref 352), none, none]) rfl (by decide +kernel) (Nat.le_of_ble_eq_true rfl) rfl ?_
  unfold gX11_runScript
  refine me_aload_n (pc' := 1) (i := 0) dX11_runScript_0 rfl rfl rfl ?_
  refine me_callV (As := []) (st := []) (F' := (mm_Sq q)) (G' := (mm_Sq q)) (F'' := (mm_Sq q)) (pc' := 4) dX11_runScript_1 rfl mfX11_begin rfl lkX11_68 kd_352 rfl (mm_ltm kd_352 hN) ⟨Nat.le_of_ble_eq_true rfl, Nat.le_of_ble_eq_true rfl⟩ (Nat.le_of_ble_eq_true rfl) (fun z => z) (rX11_begin (q := q) h hN) (fun h1 e2 => Or.inl ⟨_, _, rfl, fun z => z, ?_⟩)
  show mm_E2 _ _ _ _ _ [] h1 _ _
  refine me_aload_n (pc' := 5) (i := 0) dX11_runScript_4 rfl rfl rfl ?_
  refine me_callV (As := []) (st := []) (F' := (mm_Sq q)) (G' := (mm_Sq q)) (F'' := (mm_Sq q)) (pc' := 8) dX11_runScript_5 rfl mfX11_parseScript rfl lkX11_268 kd_352 rfl (mm_ltm kd_352 hN) ⟨Nat.le_of_ble_eq_true rfl, Nat.le_of_ble_eq_true rfl⟩ (Nat.le_of_ble_eq_true rfl) (fun z => z) (rX11_parseScript (q := q) h1 hN) (fun x3 e4 => Or.inl ⟨_, _, rfl, fun z => z, ?_⟩)
  show mm_E2 _ _ _ _ _ [.int x3.1] x3.2 _ _
  refine me_istore_n (pc' := 9) (i := 1) (L' := [some (.ref 352), some (.int x3.1), none]) dX11_runScript_8 rfl rfl (Nat.le_of_ble_eq_true rfl) (Nat.le_of_ble_eq_true rfl) rfl ?_
  refine me_aload_n (pc' := 10) (i := 0) dX11_runScript_9 rfl rfl rfl ?_
  refine me_iconst (pc' := 11) (v := 0) dX11_runScript_10 rfl kc_i0 ?_
  refine me_putI (F' := (mm_Sq q)) (pc' := 14) dX11_runScript_11 rfl fkX11_27 kd_352 (mm_ltm kd_352 hN) rfl pgX11_4 (fun z => z) ?_
  refine mm_bnd (ms_I x3.2 352 4 0) (fun _ => [some (.ref 352), some (.int x3.1), none]) (fun _ => []) (fun h5 => h5) (fun h5 => ?_)
  refine me_aload_n (pc' := 15) (i := 0) dX11_runScript_14 rfl rfl rfl ?_
  refine me_iload_n (pc' := 16) (i := 1) dX11_runScript_15 rfl rfl rfl ?_
  refine me_iconst (pc' := 17) (v := (-1)) dX11_runScript_16 rfl kc_im1 ?_
  refine mm_jnI (fun (j89 : Int32 → Option (Int32 × mm_H)) => ∀ (y6 : Int32), mm_E2 (mm_Sq q) (mm_Sq q) mX11_runScript 25 [some (.ref 352), some (.int x3.1), none] [.int y6, .ref 352] h5 (j89 y6) lf_ie) ?_ (fun j8 j8p => ?_)
  · intro y6
    refine me_iconst (pc' := 26) (v := 0) dX11_runScript_25 rfl kc_i0 ?_
    refine me_iconst (pc' := 27) (v := 0) dX11_runScript_26 rfl kc_i0 ?_
    refine me_callV (As := [.int y6, .int 0, .int 0]) (st := []) (F' := (mm_Sq q)) (G' := (mm_Sq q)) (F'' := (mm_Sq q)) (pc' := 30) dX11_runScript_27 rfl mfX11_fails rfl lkX11_143 kd_352 rfl (mm_ltm kd_352 hN) ⟨Nat.le_of_ble_eq_true rfl, Nat.le_of_ble_eq_true rfl⟩ (Nat.le_of_ble_eq_true rfl) (fun z => z) (rX11_fails (q := q) y6 0 0 h5 hN) (fun x9 e10 => Or.inl ⟨_, _, rfl, fun z => z, ?_⟩)
    show mm_E2 _ _ _ _ _ [.int (mx_bi x9.1)] x9.2 _ _
    refine me_ifB_eq (pc' := 33) (tgt := 35) dX11_runScript_30 (by decide) rfl (fun c11 => ?_) (fun c11 => ?_)
    · refine me_aload_n (pc' := 36) (i := 0) dX11_runScript_35 rfl rfl rfl ?_
      refine me_iconst (pc' := 37) (v := 0) dX11_runScript_36 rfl kc_i0 ?_
      refine me_callV (As := [.int 0]) (st := []) (F' := (mm_Sq q)) (G' := (mm_Sq q)) (F'' := (mm_Sq q)) (pc' := 40) dX11_runScript_37 rfl mfX11_remember rfl lkX11_271 kd_352 rfl (mm_ltm kd_352 hN) ⟨Nat.le_of_ble_eq_true rfl, Nat.le_of_ble_eq_true rfl⟩ (Nat.le_of_ble_eq_true rfl) (fun z => z) (rX11_remember (q := q) 0 x9.2 hN) (fun h12 e13 => Or.inl ⟨_, _, rfl, fun z => z, ?_⟩)
      show mm_E2 _ _ _ _ _ [] h12 _ _
      refine me_iconst (pc' := 41) (v := 0) dX11_runScript_40 rfl kc_i0 ?_
      refine me_istore_n (pc' := 42) (i := 2) (L' := [some (.ref 352), some (.int x3.1), some (.int 0)]) dX11_runScript_41 rfl rfl (Nat.le_of_ble_eq_true rfl) (Nat.le_of_ble_eq_true rfl) rfl ?_
      exact rX11_runScript_L42 (q := q) x3.1 hN mm_F 0 h12
    · refine me_iconst (pc' := 34) (v := 0) dX11_runScript_33 rfl kc_i0 ?_
      exact me_iret dX11_runScript_34 rfl (fun z => z) rfl
  refine me_icmp_ne (pc' := 20) (tgt := 24) dX11_runScript_17 (by decide) rfl (fun c24 => ?_) (fun c24 => ?_)
  · refine me_iconst (pc' := 25) (v := 0) dX11_runScript_24 rfl kc_i0 ?_
    exact j8p 0
  · refine me_iconst (pc' := 21) (v := 1) dX11_runScript_20 rfl kc_i1 ?_
    refine me_goto (tgt := 25) dX11_runScript_21 (by decide) ?_
    exact j8p 1
def gX11_errorCode (h : mm_H) : Option (Int32 × mm_H) :=
(some (ms_I h 352 9 0)).bind (fun (h1 : mm_H) =>
some ((mh_I h1 352 5), h1))
theorem rX11_errorCode {q : Nat × Nat} (h : mm_H) (hN : 358 ≤ q.1) : mm_R2 (mm_Sq q) (mm_Sq q) mX11_errorCode [.ref 352] h (gX11_errorCode h) lf_ie := by
  refine mm_body (L := [some (.ref 352)]) rfl (by decide +kernel) (Nat.le_of_ble_eq_true rfl) rfl ?_
  unfold gX11_errorCode
  refine me_aload_n (pc' := 1) (i := 0) dX11_errorCode_0 rfl rfl rfl ?_
  refine me_iconst (pc' := 2) (v := 0) dX11_errorCode_1 rfl kc_i0 ?_
  refine me_putI (F' := (mm_Sq q)) (pc' := 5) dX11_errorCode_2 rfl fkX11_1 kd_352 (mm_ltm kd_352 hN) rfl pgX11_9 (fun z => z) ?_
  refine mm_bnd (ms_I h 352 9 0) (fun _ => [some (.ref 352)]) (fun _ => []) (fun h1 => h1) (fun h1 => ?_)
  refine me_aload_n (pc' := 6) (i := 0) dX11_errorCode_5 rfl rfl rfl ?_
  refine me_getI (pc' := 9) dX11_errorCode_6 rfl fkX11_30 kd_352 (mm_ltm kd_352 hN) rfl ?_
  exact me_iret dX11_errorCode_9 rfl (fun z => z) rfl
def gX11_errorPosition (h : mm_H) : Option (Int32 × mm_H) :=
(some (ms_I h 352 9 0)).bind (fun (h1 : mm_H) =>
some ((mh_I h1 352 6), h1))
theorem rX11_errorPosition {q : Nat × Nat} (h : mm_H) (hN : 358 ≤ q.1) : mm_R2 (mm_Sq q) (mm_Sq q) mX11_errorPosition [.ref 352] h (gX11_errorPosition h) lf_ie := by
  refine mm_body (L := [some (.ref 352)]) rfl (by decide +kernel) (Nat.le_of_ble_eq_true rfl) rfl ?_
  unfold gX11_errorPosition
  refine me_aload_n (pc' := 1) (i := 0) dX11_errorPosition_0 rfl rfl rfl ?_
  refine me_iconst (pc' := 2) (v := 0) dX11_errorPosition_1 rfl kc_i0 ?_
  refine me_putI (F' := (mm_Sq q)) (pc' := 5) dX11_errorPosition_2 rfl fkX11_1 kd_352 (mm_ltm kd_352 hN) rfl pgX11_9 (fun z => z) ?_
  refine mm_bnd (ms_I h 352 9 0) (fun _ => [some (.ref 352)]) (fun _ => []) (fun h1 => h1) (fun h1 => ?_)
  refine me_aload_n (pc' := 6) (i := 0) dX11_errorPosition_5 rfl rfl rfl ?_
  refine me_getI (pc' := 9) dX11_errorPosition_6 rfl fkX11_33 kd_352 (mm_ltm kd_352 hN) rfl ?_
  exact me_iret dX11_errorPosition_9 rfl (fun z => z) rfl
def gX11_plain (p0 : Int32) (h : mm_H) : Option (Int32 × mm_H) :=
(some (ms_I h 352 9 0)).bind (fun (h1 : mm_H) =>
some (p0, h1))
theorem rX11_plain {q : Nat × Nat} (p0 : Int32) (h : mm_H) (hN : 358 ≤ q.1) : mm_R2 (mm_Sq q) (mm_Sq q) mX11_plain [.ref 352, .int p0] h (gX11_plain p0 h) lf_ie := by
  refine mm_body (L := [some (.ref 352), some (.int p0)]) rfl (by decide +kernel) (Nat.le_of_ble_eq_true rfl) rfl ?_
  unfold gX11_plain
  refine me_aload_n (pc' := 1) (i := 0) dX11_plain_0 rfl rfl rfl ?_
  refine me_iconst (pc' := 2) (v := 0) dX11_plain_1 rfl kc_i0 ?_
  refine me_putI (F' := (mm_Sq q)) (pc' := 5) dX11_plain_2 rfl fkX11_1 kd_352 (mm_ltm kd_352 hN) rfl pgX11_9 (fun z => z) ?_
  refine mm_bnd (ms_I h 352 9 0) (fun _ => [some (.ref 352), some (.int p0)]) (fun _ => []) (fun h1 => h1) (fun h1 => ?_)
  refine me_iload_n (pc' := 6) (i := 1) dX11_plain_5 rfl rfl rfl ?_
  exact me_iret dX11_plain_6 rfl (fun z => z) rfl
def gX11_productCount (h : mm_H) : Option (Int32 × mm_H) :=
if mm_ibd 1 4200 = true then
(gX11_plain ((mh_I h 353 (Int32.toNatClampNeg (1)))) h).bind (fun (x2 : (Int32 × mm_H)) =>
some (x2.1, x2.2)) else none
theorem rX11_productCount {q : Nat × Nat} (h : mm_H) (hN : 358 ≤ q.1) : mm_R2 (mm_Sq q) (mm_Sq q) mX11_productCount [.ref 352] h (gX11_productCount h) lf_ie := by
  refine mm_body (L := [some (.ref 352)]) rfl (by decide +kernel) (Nat.le_of_ble_eq_true rfl) rfl ?_
  unfold gX11_productCount
  refine me_aload_n (pc' := 1) (i := 0) dX11_productCount_0 rfl rfl rfl ?_
  refine me_aload_n (pc' := 2) (i := 0) dX11_productCount_1 rfl rfl rfl ?_
  refine me_getR (pc' := 5) (q' := 353) dX11_productCount_2 rfl fkX11_13 kd_352 (mm_ltm kd_352 hN) rfl (mrX11_0 hN) ?_
  refine me_iconst (pc' := 6) (v := 1) dX11_productCount_5 rfl kc_i1 ?_
  refine mm_guard (fun c1 => ?_)
  refine me_iald (pc' := 7) dX11_productCount_6 rfl kd_353 (mm_ltm kd_353 hN) (mm_ibd_of c1) ?_
  refine me_callV (As := [.int (mh_I h 353 (Int32.toNatClampNeg (1)))]) (st := []) (F' := (mm_Sq q)) (G' := (mm_Sq q)) (F'' := (mm_Sq q)) (pc' := 10) dX11_productCount_7 rfl mfX11_plain rfl lkX11_280 kd_352 rfl (mm_ltm kd_352 hN) ⟨Nat.le_of_ble_eq_true rfl, Nat.le_of_ble_eq_true rfl⟩ (Nat.le_of_ble_eq_true rfl) (fun z => z) (rX11_plain (q := q) ((mh_I h 353 (Int32.toNatClampNeg (1)))) h hN) (fun x2 e3 => Or.inl ⟨_, _, rfl, fun z => z, ?_⟩)
  show mm_E2 _ _ _ _ _ [.int x2.1] x2.2 _ _
  exact me_iret dX11_productCount_10 rfl (fun z => z) rfl
def gX11_day (h : mm_H) : Option (Int32 × mm_H) :=
if mm_ibd 0 4200 = true then
(gX11_plain ((mh_I h 353 (Int32.toNatClampNeg (0)))) h).bind (fun (x2 : (Int32 × mm_H)) =>
some (x2.1, x2.2)) else none
theorem rX11_day {q : Nat × Nat} (h : mm_H) (hN : 358 ≤ q.1) : mm_R2 (mm_Sq q) (mm_Sq q) mX11_day [.ref 352] h (gX11_day h) lf_ie := by
  refine mm_body (L := [some (.ref 352)]) rfl (by decide +kernel) (Nat.le_of_ble_eq_true rfl) rfl ?_
  unfold gX11_day
  refine me_aload_n (pc' := 1) (i := 0) dX11_day_0 rfl rfl rfl ?_
  refine me_aload_n (pc' := 2) (i := 0) dX11_day_1 rfl rfl rfl ?_
  refine me_getR (pc' := 5) (q' := 353) dX11_day_2 rfl fkX11_13 kd_352 (mm_ltm kd_352 hN) rfl (mrX11_0 hN) ?_
  refine me_iconst (pc' := 6) (v := 0) dX11_day_5 rfl kc_i0 ?_
  refine mm_guard (fun c1 => ?_)
  refine me_iald (pc' := 7) dX11_day_6 rfl kd_353 (mm_ltm kd_353 hN) (mm_ibd_of c1) ?_
  refine me_callV (As := [.int (mh_I h 353 (Int32.toNatClampNeg (0)))]) (st := []) (F' := (mm_Sq q)) (G' := (mm_Sq q)) (F'' := (mm_Sq q)) (pc' := 10) dX11_day_7 rfl mfX11_plain rfl lkX11_280 kd_352 rfl (mm_ltm kd_352 hN) ⟨Nat.le_of_ble_eq_true rfl, Nat.le_of_ble_eq_true rfl⟩ (Nat.le_of_ble_eq_true rfl) (fun z => z) (rX11_plain (q := q) ((mh_I h 353 (Int32.toNatClampNeg (0)))) h hN) (fun x2 e3 => Or.inl ⟨_, _, rfl, fun z => z, ?_⟩)
  show mm_E2 _ _ _ _ _ [.int x2.1] x2.2 _ _
  exact me_iret dX11_day_10 rfl (fun z => z) rfl
def gX11_nameByte (p0 : Int32) (p1 : Int32) (h : mm_H) : Option (Int32 × mm_H) :=
(gX11_isProduct p0 h).bind (fun (x1 : Bool) =>
mm_jn (fun (y3 : Int32) =>
(gX11_fails y3 0 0 h).bind (fun (x6 : (Bool × mm_H)) =>
if x6.1 = true then
some (0, x6.2)
else
(gX11_ofProduct p0 ((1 + p1)) x6.2).bind (fun (x9 : Int32) =>
some (x9, x6.2)))) (fun (j5 : Int32 → Option (Int32 × mm_H)) =>
mm_jn (fun (_ : Unit) =>
j5 1) (fun (j12 : Unit → Option (Int32 × mm_H)) =>
if x1 = true then
(gX11_isProduct p0 h).bind (fun (x14 : Bool) =>
mm_jn (fun (y16 : Int32) (y18 : Int32) (y19 : Int32) =>
(gX11_ofProduct y16 0 h).bind (fun (x22 : Int32) =>
(gX11_in y19 y18 ((x22 - 1)) h).bind (fun (x24 : Bool) =>
if x24 = true then
j5 0
else
j12 ()))) (fun (j21 : Int32 → Int32 → Int32 → Option (Int32 × mm_H)) =>
if x14 = true then
j21 p0 0 p1
else
j21 0 0 p1))
else
j12 ())))
theorem rX11_nameByte {q : Nat × Nat} (p0 : Int32) (p1 : Int32) (h : mm_H) (hN : 358 ≤ q.1) : mm_R2 (mm_Sq q) (mm_Sq q) mX11_nameByte [.ref 352, .int p0, .int p1] h (gX11_nameByte p0 p1 h) lf_ie := by
  refine mm_body (L := [some (.ref 352), some (.int p0), some (.int p1)]) rfl (by decide +kernel) (Nat.le_of_ble_eq_true rfl) rfl ?_
  unfold gX11_nameByte
  refine me_aload_n (pc' := 1) (i := 0) dX11_nameByte_0 rfl rfl rfl ?_
  refine me_aload_n (pc' := 2) (i := 0) dX11_nameByte_1 rfl rfl rfl ?_
  refine me_iload_n (pc' := 3) (i := 1) dX11_nameByte_2 rfl rfl rfl ?_
  refine me_callV (As := [.int p0]) (st := [.ref 352]) (F' := (mm_Sq q)) (G' := (mm_Sq q)) (F'' := (mm_Sq q)) (pc' := 6) dX11_nameByte_3 rfl mfX11_isProduct rfl lkX11_283 kd_352 rfl (mm_ltm kd_352 hN) ⟨Nat.le_of_ble_eq_true rfl, Nat.le_of_ble_eq_true rfl⟩ (Nat.le_of_ble_eq_true rfl) (fun z => z) (rX11_isProduct (q := q) p0 h hN) (fun x1 e2 => Or.inl ⟨_, _, rfl, fun z => z, ?_⟩)
  show mm_E2 _ _ _ _ _ [.int (mx_bi x1), .ref 352] h _ _
  refine mm_jnI (fun (j59 : Int32 → Option (Int32 × mm_H)) => ∀ (y3 : Int32), mm_E2 (mm_Sq q) (mm_Sq q) mX11_nameByte 42 [some (.ref 352), some (.int p0), some (.int p1)] [.int y3, .ref 352] h (j59 y3) lf_ie) ?_ (fun j5 j5p => ?_)
  · intro y3
    refine me_iconst (pc' := 43) (v := 0) dX11_nameByte_42 rfl kc_i0 ?_
    refine me_iconst (pc' := 44) (v := 0) dX11_nameByte_43 rfl kc_i0 ?_
    refine me_callV (As := [.int y3, .int 0, .int 0]) (st := []) (F' := (mm_Sq q)) (G' := (mm_Sq q)) (F'' := (mm_Sq q)) (pc' := 47) dX11_nameByte_44 rfl mfX11_fails rfl lkX11_143 kd_352 rfl (mm_ltm kd_352 hN) ⟨Nat.le_of_ble_eq_true rfl, Nat.le_of_ble_eq_true rfl⟩ (Nat.le_of_ble_eq_true rfl) (fun z => z) (rX11_fails (q := q) y3 0 0 h hN) (fun x6 e7 => Or.inl ⟨_, _, rfl, fun z => z, ?_⟩)
    show mm_E2 _ _ _ _ _ [.int (mx_bi x6.1)] x6.2 _ _
    refine me_ifB_eq (pc' := 50) (tgt := 52) dX11_nameByte_47 (by decide) rfl (fun c8 => ?_) (fun c8 => ?_)
    · refine me_aload_n (pc' := 53) (i := 0) dX11_nameByte_52 rfl rfl rfl ?_
      refine me_iload_n (pc' := 54) (i := 1) dX11_nameByte_53 rfl rfl rfl ?_
      refine me_iconst (pc' := 55) (v := 1) dX11_nameByte_54 rfl kc_i1 ?_
      refine me_iload_n (pc' := 56) (i := 2) dX11_nameByte_55 rfl rfl rfl ?_
      refine me_iadd (pc' := 57) dX11_nameByte_56 rfl ?_
      refine me_callV (As := [.int p0, .int (1 + p1)]) (st := []) (F' := (mm_Sq q)) (G' := (mm_Sq q)) (F'' := (mm_Sq q)) (pc' := 60) dX11_nameByte_57 rfl mfX11_ofProduct rfl lkX11_127 kd_352 rfl (mm_ltm kd_352 hN) ⟨Nat.le_of_ble_eq_true rfl, Nat.le_of_ble_eq_true rfl⟩ (Nat.le_of_ble_eq_true rfl) (fun z => z) (rX11_ofProduct (q := q) p0 ((1 + p1)) x6.2 hN) (fun x9 e10 => Or.inl ⟨_, _, rfl, fun z => z, ?_⟩)
      show mm_E2 _ _ _ _ _ [.int x9] x6.2 _ _
      exact me_iret dX11_nameByte_60 rfl (fun z => z) rfl
    · refine me_iconst (pc' := 51) (v := 0) dX11_nameByte_50 rfl kc_i0 ?_
      exact me_iret dX11_nameByte_51 rfl (fun z => z) rfl
  refine mm_jnI (fun (j129 : Unit → Option (Int32 × mm_H)) => ∀ (_ : Unit), mm_E2 (mm_Sq q) (mm_Sq q) mX11_nameByte 37 [some (.ref 352), some (.int p0), some (.int p1)] [.ref 352] h (j129 ()) lf_ie) ?_ (fun j12 j12p => ?_)
  · intro _
    refine me_iconst (pc' := 38) (v := 1) dX11_nameByte_37 rfl kc_i1 ?_
    refine me_goto (tgt := 42) dX11_nameByte_38 (by decide) ?_
    exact j5p 1
  refine me_ifB_eq (pc' := 9) (tgt := 37) dX11_nameByte_6 (by decide) rfl (fun c13 => ?_) (fun c13 => ?_)
  · exact j12p ()
  · refine me_iload_n (pc' := 10) (i := 2) dX11_nameByte_9 rfl rfl rfl ?_
    refine me_iconst (pc' := 11) (v := 0) dX11_nameByte_10 rfl kc_i0 ?_
    refine me_aload_n (pc' := 12) (i := 0) dX11_nameByte_11 rfl rfl rfl ?_
    refine me_aload_n (pc' := 13) (i := 0) dX11_nameByte_12 rfl rfl rfl ?_
    refine me_iload_n (pc' := 14) (i := 1) dX11_nameByte_13 rfl rfl rfl ?_
    refine me_callV (As := [.int p0]) (st := [.ref 352, .int 0, .int p1, .ref 352]) (F' := (mm_Sq q)) (G' := (mm_Sq q)) (F'' := (mm_Sq q)) (pc' := 17) dX11_nameByte_14 rfl mfX11_isProduct rfl lkX11_283 kd_352 rfl (mm_ltm kd_352 hN) ⟨Nat.le_of_ble_eq_true rfl, Nat.le_of_ble_eq_true rfl⟩ (Nat.le_of_ble_eq_true rfl) (fun z => z) (rX11_isProduct (q := q) p0 h hN) (fun x14 e15 => Or.inl ⟨_, _, rfl, fun z => z, ?_⟩)
    show mm_E2 _ _ _ _ _ [.int (mx_bi x14), .ref 352, .int 0, .int p1, .ref 352] h _ _
    refine mm_jnI (fun (j219 : Int32 → Int32 → Int32 → Option (Int32 × mm_H)) => ∀ (y16 : Int32) (y18 : Int32) (y19 : Int32), mm_E2 (mm_Sq q) (mm_Sq q) mX11_nameByte 25 [some (.ref 352), some (.int p0), some (.int p1)] [.int y16, .ref 352, .int y18, .int y19, .ref 352] h (j219 y16 y18 y19) lf_ie) ?_ (fun j21 j21p => ?_)
    · intro y16 y18 y19
      refine me_iconst (pc' := 26) (v := 0) dX11_nameByte_25 rfl kc_i0 ?_
      refine me_callV (As := [.int y16, .int 0]) (st := [.int y18, .int y19, .ref 352]) (F' := (mm_Sq q)) (G' := (mm_Sq q)) (F'' := (mm_Sq q)) (pc' := 29) dX11_nameByte_26 rfl mfX11_ofProduct rfl lkX11_127 kd_352 rfl (mm_ltm kd_352 hN) ⟨Nat.le_of_ble_eq_true rfl, Nat.le_of_ble_eq_true rfl⟩ (Nat.le_of_ble_eq_true rfl) (fun z => z) (rX11_ofProduct (q := q) y16 0 h hN) (fun x22 e23 => Or.inl ⟨_, _, rfl, fun z => z, ?_⟩)
      show mm_E2 _ _ _ _ _ [.int x22, .int y18, .int y19, .ref 352] h _ _
      refine me_iconst (pc' := 30) (v := 1) dX11_nameByte_29 rfl kc_i1 ?_
      refine me_isub (pc' := 31) dX11_nameByte_30 rfl ?_
      refine me_callS (As := [.int y19, .int y18, .int (x22 - 1)]) (st := [.ref 352]) (F' := (mm_Sq q)) (G' := (mm_Sq q)) (F'' := (mm_Sq q)) (pc' := 34) dX11_nameByte_31 rfl mfX11_in rfl lkX11_75 ⟨Nat.le_of_ble_eq_true rfl, Nat.le_of_ble_eq_true rfl⟩ (Nat.le_of_ble_eq_true rfl) (fun z => z) (rX11_in (q := q) y19 y18 ((x22 - 1)) h hN) (fun x24 e25 => Or.inl ⟨_, _, rfl, fun z => z, ?_⟩)
      show mm_E2 _ _ _ _ _ [.int (mx_bi x24), .ref 352] h _ _
      refine me_ifB_ne (pc' := 37) (tgt := 41) dX11_nameByte_34 (by decide) rfl (fun c26 => ?_) (fun c26 => ?_)
      · refine me_iconst (pc' := 42) (v := 0) dX11_nameByte_41 rfl kc_i0 ?_
        exact j5p 0
      · exact j12p ()
    refine me_ifB_eq (pc' := 20) (tgt := 24) dX11_nameByte_17 (by decide) rfl (fun c27 => ?_) (fun c27 => ?_)
    · refine me_iconst (pc' := 25) (v := 0) dX11_nameByte_24 rfl kc_i0 ?_
      exact j21p 0 0 p1
    · refine me_iload_n (pc' := 21) (i := 1) dX11_nameByte_20 rfl rfl rfl ?_
      refine me_goto (tgt := 25) dX11_nameByte_21 (by decide) ?_
      exact j21p p0 0 p1
def gX11_findProduct (h : mm_H) : Option (Int32 × mm_H) :=
(gX11_productNamed 0 ((mh_I h 352 4)) h).bind (fun (x1 : Int32) =>
mm_jn (fun (y3 : Int32) =>
(gX11_fails y3 0 0 h).bind (fun (x6 : (Bool × mm_H)) =>
if x6.1 = true then
some (0, x6.2)
else
some (x1, x6.2))) (fun (j5 : Int32 → Option (Int32 × mm_H)) =>
if x1 = (-1) then
j5 1
else
j5 0))
theorem rX11_findProduct {q : Nat × Nat} (h : mm_H) (hN : 358 ≤ q.1) : mm_R2 (mm_Sq q) (mm_Sq q) mX11_findProduct [.ref 352] h (gX11_findProduct h) lf_ie := by
  refine mm_body (L := [some (.ref 352), none]) rfl (by decide +kernel) (Nat.le_of_ble_eq_true rfl) rfl ?_
  unfold gX11_findProduct
  refine me_aload_n (pc' := 1) (i := 0) dX11_findProduct_0 rfl rfl rfl ?_
  refine me_iconst (pc' := 2) (v := 0) dX11_findProduct_1 rfl kc_i0 ?_
  refine me_aload_n (pc' := 3) (i := 0) dX11_findProduct_2 rfl rfl rfl ?_
  refine me_getI (pc' := 6) dX11_findProduct_3 rfl fkX11_27 kd_352 (mm_ltm kd_352 hN) rfl ?_
  refine me_callV (As := [.int 0, .int (mh_I h 352 4)]) (st := []) (F' := (mm_Sq q)) (G' := (mm_Sq q)) (F'' := (mm_Sq q)) (pc' := 9) dX11_findProduct_6 rfl mfX11_productNamed rfl lkX11_166 kd_352 rfl (mm_ltm kd_352 hN) ⟨Nat.le_of_ble_eq_true rfl, Nat.le_of_ble_eq_true rfl⟩ (Nat.le_of_ble_eq_true rfl) (fun z => z) (rX11_productNamed (q := q) 0 ((mh_I h 352 4)) h hN) (fun x1 e2 => Or.inl ⟨_, _, rfl, fun z => z, ?_⟩)
  show mm_E2 _ _ _ _ _ [.int x1] h _ _
  refine me_istore_n (pc' := 10) (i := 1) (L' := [some (.ref 352), some (.int x1)]) dX11_findProduct_9 rfl rfl (Nat.le_of_ble_eq_true rfl) (Nat.le_of_ble_eq_true rfl) rfl ?_
  refine me_aload_n (pc' := 11) (i := 0) dX11_findProduct_10 rfl rfl rfl ?_
  refine me_iload_n (pc' := 12) (i := 1) dX11_findProduct_11 rfl rfl rfl ?_
  refine me_iconst (pc' := 13) (v := (-1)) dX11_findProduct_12 rfl kc_im1 ?_
  refine mm_jnI (fun (j59 : Int32 → Option (Int32 × mm_H)) => ∀ (y3 : Int32), mm_E2 (mm_Sq q) (mm_Sq q) mX11_findProduct 21 [none, some (.int x1)] [.int y3, .ref 352] h (j59 y3) lf_ie) ?_ (fun j5 j5p => ?_)
  · intro y3
    refine me_iconst (pc' := 22) (v := 0) dX11_findProduct_21 rfl kc_i0 ?_
    refine me_iconst (pc' := 23) (v := 0) dX11_findProduct_22 rfl kc_i0 ?_
    refine me_callV (As := [.int y3, .int 0, .int 0]) (st := []) (F' := (mm_Sq q)) (G' := (mm_Sq q)) (F'' := (mm_Sq q)) (pc' := 26) dX11_findProduct_23 rfl mfX11_fails rfl lkX11_143 kd_352 rfl (mm_ltm kd_352 hN) ⟨Nat.le_of_ble_eq_true rfl, Nat.le_of_ble_eq_true rfl⟩ (Nat.le_of_ble_eq_true rfl) (fun z => z) (rX11_fails (q := q) y3 0 0 h hN) (fun x6 e7 => Or.inl ⟨_, _, rfl, fun z => z, ?_⟩)
    show mm_E2 _ _ _ _ _ [.int (mx_bi x6.1)] x6.2 _ _
    refine me_ifB_eq (pc' := 29) (tgt := 31) dX11_findProduct_26 (by decide) rfl (fun c8 => ?_) (fun c8 => ?_)
    · refine me_iload_n (pc' := 32) (i := 1) dX11_findProduct_31 rfl rfl rfl ?_
      exact me_iret dX11_findProduct_32 rfl (fun z => z) rfl
    · refine me_iconst (pc' := 30) (v := 0) dX11_findProduct_29 rfl kc_i0 ?_
      exact me_iret dX11_findProduct_30 rfl (fun z => z) rfl
  refine me_icmp_ne (pc' := 16) (tgt := 20) dX11_findProduct_13 (by decide) rfl (fun c9 => ?_) (fun c9 => ?_)
  · refine me_iconst (pc' := 21) (v := 0) dX11_findProduct_20 rfl kc_i0 ?_
    exact mm_maskB [false, true] (j5p 0)
  · refine me_iconst (pc' := 17) (v := 1) dX11_findProduct_16 rfl kc_i1 ?_
    refine me_goto (tgt := 21) dX11_findProduct_17 (by decide) ?_
    exact mm_maskB [false, true] (j5p 1)
def gX11_productField (p0 : Int32) (p1 : Int32) (h : mm_H) : Option (Int32 × mm_H) :=
(gX11_isProduct p0 h).bind (fun (x1 : Bool) =>
mm_jn (fun (y3 : Int32) =>
(gX11_fails y3 0 0 h).bind (fun (x6 : (Bool × mm_H)) =>
if x6.1 = true then
some (0, x6.2)
else
(gX11_ofProduct p0 p1 x6.2).bind (fun (x9 : Int32) =>
some (x9, x6.2)))) (fun (j5 : Int32 → Option (Int32 × mm_H)) =>
if x1 = true then
j5 0
else
j5 1))
theorem rX11_productField {q : Nat × Nat} (p0 : Int32) (p1 : Int32) (h : mm_H) (hN : 358 ≤ q.1) : mm_R2 (mm_Sq q) (mm_Sq q) mX11_productField [.ref 352, .int p0, .int p1] h (gX11_productField p0 p1 h) lf_ie := by
  refine mm_body (L := [some (.ref 352), some (.int p0), some (.int p1)]) rfl (by decide +kernel) (Nat.le_of_ble_eq_true rfl) rfl ?_
  unfold gX11_productField
  refine me_aload_n (pc' := 1) (i := 0) dX11_productField_0 rfl rfl rfl ?_
  refine me_aload_n (pc' := 2) (i := 0) dX11_productField_1 rfl rfl rfl ?_
  refine me_iload_n (pc' := 3) (i := 1) dX11_productField_2 rfl rfl rfl ?_
  refine me_callV (As := [.int p0]) (st := [.ref 352]) (F' := (mm_Sq q)) (G' := (mm_Sq q)) (F'' := (mm_Sq q)) (pc' := 6) dX11_productField_3 rfl mfX11_isProduct rfl lkX11_283 kd_352 rfl (mm_ltm kd_352 hN) ⟨Nat.le_of_ble_eq_true rfl, Nat.le_of_ble_eq_true rfl⟩ (Nat.le_of_ble_eq_true rfl) (fun z => z) (rX11_isProduct (q := q) p0 h hN) (fun x1 e2 => Or.inl ⟨_, _, rfl, fun z => z, ?_⟩)
  show mm_E2 _ _ _ _ _ [.int (mx_bi x1), .ref 352] h _ _
  refine mm_jnI (fun (j59 : Int32 → Option (Int32 × mm_H)) => ∀ (y3 : Int32), mm_E2 (mm_Sq q) (mm_Sq q) mX11_productField 14 [some (.ref 352), some (.int p0), some (.int p1)] [.int y3, .ref 352] h (j59 y3) lf_ie) ?_ (fun j5 j5p => ?_)
  · intro y3
    refine me_iconst (pc' := 15) (v := 0) dX11_productField_14 rfl kc_i0 ?_
    refine me_iconst (pc' := 16) (v := 0) dX11_productField_15 rfl kc_i0 ?_
    refine me_callV (As := [.int y3, .int 0, .int 0]) (st := []) (F' := (mm_Sq q)) (G' := (mm_Sq q)) (F'' := (mm_Sq q)) (pc' := 19) dX11_productField_16 rfl mfX11_fails rfl lkX11_143 kd_352 rfl (mm_ltm kd_352 hN) ⟨Nat.le_of_ble_eq_true rfl, Nat.le_of_ble_eq_true rfl⟩ (Nat.le_of_ble_eq_true rfl) (fun z => z) (rX11_fails (q := q) y3 0 0 h hN) (fun x6 e7 => Or.inl ⟨_, _, rfl, fun z => z, ?_⟩)
    show mm_E2 _ _ _ _ _ [.int (mx_bi x6.1)] x6.2 _ _
    refine me_ifB_eq (pc' := 22) (tgt := 24) dX11_productField_19 (by decide) rfl (fun c8 => ?_) (fun c8 => ?_)
    · refine me_aload_n (pc' := 25) (i := 0) dX11_productField_24 rfl rfl rfl ?_
      refine me_iload_n (pc' := 26) (i := 1) dX11_productField_25 rfl rfl rfl ?_
      refine me_iload_n (pc' := 27) (i := 2) dX11_productField_26 rfl rfl rfl ?_
      refine me_callV (As := [.int p0, .int p1]) (st := []) (F' := (mm_Sq q)) (G' := (mm_Sq q)) (F'' := (mm_Sq q)) (pc' := 30) dX11_productField_27 rfl mfX11_ofProduct rfl lkX11_127 kd_352 rfl (mm_ltm kd_352 hN) ⟨Nat.le_of_ble_eq_true rfl, Nat.le_of_ble_eq_true rfl⟩ (Nat.le_of_ble_eq_true rfl) (fun z => z) (rX11_ofProduct (q := q) p0 p1 x6.2 hN) (fun x9 e10 => Or.inl ⟨_, _, rfl, fun z => z, ?_⟩)
      show mm_E2 _ _ _ _ _ [.int x9] x6.2 _ _
      exact me_iret dX11_productField_30 rfl (fun z => z) rfl
    · refine me_iconst (pc' := 23) (v := 0) dX11_productField_22 rfl kc_i0 ?_
      exact me_iret dX11_productField_23 rfl (fun z => z) rfl
  refine me_ifB_ne (pc' := 9) (tgt := 13) dX11_productField_6 (by decide) rfl (fun c11 => ?_) (fun c11 => ?_)
  · refine me_iconst (pc' := 14) (v := 0) dX11_productField_13 rfl kc_i0 ?_
    exact j5p 0
  · refine me_iconst (pc' := 10) (v := 1) dX11_productField_9 rfl kc_i1 ?_
    refine me_goto (tgt := 14) dX11_productField_10 (by decide) ?_
    exact j5p 1
def gX11_minimumStock (p0 : Int32) (h : mm_H) : Option (Int32 × mm_H) :=
(gX11_productField p0 7 h).bind (fun (x1 : (Int32 × mm_H)) =>
some (x1.1, x1.2))
theorem rX11_minimumStock {q : Nat × Nat} (p0 : Int32) (h : mm_H) (hN : 358 ≤ q.1) : mm_R2 (mm_Sq q) (mm_Sq q) mX11_minimumStock [.ref 352, .int p0] h (gX11_minimumStock p0 h) lf_ie := by
  refine mm_body (L := [some (.ref 352), some (.int p0)]) rfl (by decide +kernel) (Nat.le_of_ble_eq_true rfl) rfl ?_
  unfold gX11_minimumStock
  refine me_aload_n (pc' := 1) (i := 0) dX11_minimumStock_0 rfl rfl rfl ?_
  refine me_iload_n (pc' := 2) (i := 1) dX11_minimumStock_1 rfl rfl rfl ?_
  refine me_bipush (pc' := 4) (v := 7) dX11_minimumStock_2 rfl kc_b7 ?_
  refine me_callV (As := [.int p0, .int 7]) (st := []) (F' := (mm_Sq q)) (G' := (mm_Sq q)) (F'' := (mm_Sq q)) (pc' := 7) dX11_minimumStock_4 rfl mfX11_productField rfl lkX11_286 kd_352 rfl (mm_ltm kd_352 hN) ⟨Nat.le_of_ble_eq_true rfl, Nat.le_of_ble_eq_true rfl⟩ (Nat.le_of_ble_eq_true rfl) (fun z => z) (rX11_productField (q := q) p0 7 h hN) (fun x1 e2 => Or.inl ⟨_, _, rfl, fun z => z, ?_⟩)
  show mm_E2 _ _ _ _ _ [.int x1.1] x1.2 _ _
  exact me_iret dX11_minimumStock_7 rfl (fun z => z) rfl
def gX11_onHand (p0 : Int32) (h : mm_H) : Option (Int32 × mm_H) :=
(gX11_isProduct p0 h).bind (fun (x1 : Bool) =>
mm_jn (fun (y3 : Int32) =>
(gX11_fails y3 0 0 h).bind (fun (x6 : (Bool × mm_H)) =>
if x6.1 = true then
some (0, x6.2)
else
(gX11_stock p0 x6.2).bind (fun (x9 : Int32) =>
some (x9, x6.2)))) (fun (j5 : Int32 → Option (Int32 × mm_H)) =>
if x1 = true then
j5 0
else
j5 1))
theorem rX11_onHand {q : Nat × Nat} (p0 : Int32) (h : mm_H) (hN : 358 ≤ q.1) : mm_R2 (mm_Sq q) (mm_Sq q) mX11_onHand [.ref 352, .int p0] h (gX11_onHand p0 h) lf_ie := by
  refine mm_body (L := [some (.ref 352), some (.int p0)]) rfl (by decide +kernel) (Nat.le_of_ble_eq_true rfl) rfl ?_
  unfold gX11_onHand
  refine me_aload_n (pc' := 1) (i := 0) dX11_onHand_0 rfl rfl rfl ?_
  refine me_aload_n (pc' := 2) (i := 0) dX11_onHand_1 rfl rfl rfl ?_
  refine me_iload_n (pc' := 3) (i := 1) dX11_onHand_2 rfl rfl rfl ?_
  refine me_callV (As := [.int p0]) (st := [.ref 352]) (F' := (mm_Sq q)) (G' := (mm_Sq q)) (F'' := (mm_Sq q)) (pc' := 6) dX11_onHand_3 rfl mfX11_isProduct rfl lkX11_283 kd_352 rfl (mm_ltm kd_352 hN) ⟨Nat.le_of_ble_eq_true rfl, Nat.le_of_ble_eq_true rfl⟩ (Nat.le_of_ble_eq_true rfl) (fun z => z) (rX11_isProduct (q := q) p0 h hN) (fun x1 e2 => Or.inl ⟨_, _, rfl, fun z => z, ?_⟩)
  show mm_E2 _ _ _ _ _ [.int (mx_bi x1), .ref 352] h _ _
  refine mm_jnI (fun (j59 : Int32 → Option (Int32 × mm_H)) => ∀ (y3 : Int32), mm_E2 (mm_Sq q) (mm_Sq q) mX11_onHand 14 [some (.ref 352), some (.int p0)] [.int y3, .ref 352] h (j59 y3) lf_ie) ?_ (fun j5 j5p => ?_)
  · intro y3
    refine me_iconst (pc' := 15) (v := 0) dX11_onHand_14 rfl kc_i0 ?_
    refine me_iconst (pc' := 16) (v := 0) dX11_onHand_15 rfl kc_i0 ?_
    refine me_callV (As := [.int y3, .int 0, .int 0]) (st := []) (F' := (mm_Sq q)) (G' := (mm_Sq q)) (F'' := (mm_Sq q)) (pc' := 19) dX11_onHand_16 rfl mfX11_fails rfl lkX11_143 kd_352 rfl (mm_ltm kd_352 hN) ⟨Nat.le_of_ble_eq_true rfl, Nat.le_of_ble_eq_true rfl⟩ (Nat.le_of_ble_eq_true rfl) (fun z => z) (rX11_fails (q := q) y3 0 0 h hN) (fun x6 e7 => Or.inl ⟨_, _, rfl, fun z => z, ?_⟩)
    show mm_E2 _ _ _ _ _ [.int (mx_bi x6.1)] x6.2 _ _
    refine me_ifB_eq (pc' := 22) (tgt := 24) dX11_onHand_19 (by decide) rfl (fun c8 => ?_) (fun c8 => ?_)
    · refine me_aload_n (pc' := 25) (i := 0) dX11_onHand_24 rfl rfl rfl ?_
      refine me_iload_n (pc' := 26) (i := 1) dX11_onHand_25 rfl rfl rfl ?_
      refine me_callV (As := [.int p0]) (st := []) (F' := (mm_Sq q)) (G' := (mm_Sq q)) (F'' := (mm_Sq q)) (pc' := 29) dX11_onHand_26 rfl mfX11_stock rfl lkX11_289 kd_352 rfl (mm_ltm kd_352 hN) ⟨Nat.le_of_ble_eq_true rfl, Nat.le_of_ble_eq_true rfl⟩ (Nat.le_of_ble_eq_true rfl) (fun z => z) (rX11_stock (q := q) p0 x6.2 hN) (fun x9 e10 => Or.inl ⟨_, _, rfl, fun z => z, ?_⟩)
      show mm_E2 _ _ _ _ _ [.int x9] x6.2 _ _
      exact me_iret dX11_onHand_29 rfl (fun z => z) rfl
    · refine me_iconst (pc' := 23) (v := 0) dX11_onHand_22 rfl kc_i0 ?_
      exact me_iret dX11_onHand_23 rfl (fun z => z) rfl
  refine me_ifB_ne (pc' := 9) (tgt := 13) dX11_onHand_6 (by decide) rfl (fun c11 => ?_) (fun c11 => ?_)
  · refine me_iconst (pc' := 14) (v := 0) dX11_onHand_13 rfl kc_i0 ?_
    exact j5p 0
  · refine me_iconst (pc' := 10) (v := 1) dX11_onHand_9 rfl kc_i1 ?_
    refine me_goto (tgt := 14) dX11_onHand_10 (by decide) ?_
    exact j5p 1
def gX11_reserved_L28 (u9 : Int32) (h : mm_H) : Nat → Int32 → Int32 → Option (Int32 × mm_H)
  | 0, _, _ => none
  | n + 1, w10, w11 =>
    if mm_ibd 2 4200 = true then
    if w11 < (mh_I h 353 (Int32.toNatClampNeg (2))) then
    (gX11_isOf w11 u9 h).bind (fun (x14 : Bool) =>
    mm_jn (fun (y16 : Int32) (y17 : Int32) =>
    (some ((y17 + y16))).bind (fun (x19 : Int32) =>
    (some (w11 + 1)).bind (fun (x20 : Int32) =>
    gX11_reserved_L28 u9 h n x19 x20))) (fun (j18 : Int32 → Int32 → Option (Int32 × mm_H)) =>
    if x14 = true then
    (gX11_held w11 h).bind (fun (x22 : Int32) =>
    j18 x22 w10)
    else
    j18 0 w10))
    else
    some (w10, h) else none
def gX11_reserved (p0 : Int32) (h : mm_H) : Option (Int32 × mm_H) :=
(gX11_isProduct p0 h).bind (fun (x1 : Bool) =>
mm_jn (fun (y3 : Int32) =>
(gX11_fails y3 0 0 h).bind (fun (x6 : (Bool × mm_H)) =>
if x6.1 = true then
some (0, x6.2)
else
gX11_reserved_L28 p0 x6.2 mm_F 0 0)) (fun (j5 : Int32 → Option (Int32 × mm_H)) =>
if x1 = true then
j5 0
else
j5 1))
theorem rX11_reserved_L28 {q : Nat × Nat}  (u9 : Int32)  (h : mm_H)  (hN : 358 ≤ q.1) : ∀ (n : Nat) (w10 : Int32) (w11 : Int32), mm_E2 (mm_Sq q) (mm_Sq q) mX11_reserved 28 [some (.ref 352), some (.int u9), some (.int w10), some (.int w11)] [] h (gX11_reserved_L28 u9 h n w10 w11) lf_ie := by
  intro n
  induction n with
  | zero =>
    intro w10 w11
    exact mm_none
  | succ n ih =>
    intro w10 w11
    rw [gX11_reserved_L28]
    refine me_iload_n (pc' := 29) (i := 3) dX11_reserved_28 rfl rfl rfl ?_
    refine me_aload_n (pc' := 30) (i := 0) dX11_reserved_29 rfl rfl rfl ?_
    refine me_getR (pc' := 33) (q' := 353) dX11_reserved_30 rfl fkX11_13 kd_352 (mm_ltm kd_352 hN) rfl (mrX11_0 hN) ?_
    refine me_iconst (pc' := 34) (v := 2) dX11_reserved_33 rfl kc_i2 ?_
    refine mm_guard (fun c12 => ?_)
    refine me_iald (pc' := 35) dX11_reserved_34 rfl kd_353 (mm_ltm kd_353 hN) (mm_ibd_of c12) ?_
    refine me_icmp_ge (pc' := 38) (tgt := 65) dX11_reserved_35 (by decide) rfl (fun c13 => ?_) (fun c13 => ?_)
    · refine me_iload_n (pc' := 66) (i := 2) dX11_reserved_65 rfl rfl rfl ?_
      exact me_iret dX11_reserved_66 rfl (fun z => z) rfl
    · refine me_iload_n (pc' := 39) (i := 2) dX11_reserved_38 rfl rfl rfl ?_
      refine me_aload_n (pc' := 40) (i := 0) dX11_reserved_39 rfl rfl rfl ?_
      refine me_iload_n (pc' := 41) (i := 3) dX11_reserved_40 rfl rfl rfl ?_
      refine me_iload_n (pc' := 42) (i := 1) dX11_reserved_41 rfl rfl rfl ?_
      refine me_callV (As := [.int w11, .int u9]) (st := [.int w10]) (F' := (mm_Sq q)) (G' := (mm_Sq q)) (F'' := (mm_Sq q)) (pc' := 45) dX11_reserved_42 rfl mfX11_isOf rfl lkX11_98 kd_352 rfl (mm_ltm kd_352 hN) ⟨Nat.le_of_ble_eq_true rfl, Nat.le_of_ble_eq_true rfl⟩ (Nat.le_of_ble_eq_true rfl) (fun z => z) (rX11_isOf (q := q) w11 u9 h hN) (fun x14 e15 => Or.inl ⟨_, _, rfl, fun z => z, ?_⟩)
      show mm_E2 _ _ _ _ _ [.int (mx_bi x14), .int w10] h _ _
      refine mm_jnI (fun (j189 : Int32 → Int32 → Option (Int32 × mm_H)) => ∀ (y16 : Int32) (y17 : Int32), mm_E2 (mm_Sq q) (mm_Sq q) mX11_reserved 57 [some (.ref 352), some (.int u9), none, some (.int w11)] [.int y16, .int y17] h (j189 y16 y17) lf_ie) ?_ (fun j18 j18p => ?_)
      · intro y16 y17
        refine me_iadd (pc' := 58) dX11_reserved_57 rfl ?_
        refine mm_bnd ((y17 + y16)) (fun x19 => [some (.ref 352), some (.int u9), none, some (.int w11)]) (fun x19 => [.int x19]) (fun _ => h) (fun x19 => ?_)
        refine me_istore_n (pc' := 59) (i := 2) (L' := [some (.ref 352), some (.int u9), some (.int x19), some (.int w11)]) dX11_reserved_58 rfl rfl (Nat.le_of_ble_eq_true rfl) (Nat.le_of_ble_eq_true rfl) rfl ?_
        refine me_iinc (pc' := 62) (i := 3) (x := w11) (y := w11 + 1) (L' := [some (.ref 352), some (.int u9), some (.int x19), some (.int (w11 + 1))]) dX11_reserved_59 rfl (Nat.le_of_ble_eq_true rfl) (Nat.le_of_ble_eq_true rfl) rfl (kc_plus kc_i1) rfl ?_
        refine mm_bnd (w11 + 1) (fun x20 => [some (.ref 352), some (.int u9), some (.int x19), some (.int x20)]) (fun _ => []) (fun _ => h) (fun x20 => ?_)
        refine me_goto (tgt := 28) dX11_reserved_62 (by decide) ?_
        exact ih x19 x20
      refine me_ifB_eq (pc' := 48) (tgt := 56) dX11_reserved_45 (by decide) rfl (fun c21 => ?_) (fun c21 => ?_)
      · refine me_iconst (pc' := 57) (v := 0) dX11_reserved_56 rfl kc_i0 ?_
        exact mm_maskB [true, true, false, true] (j18p 0 w10)
      · refine me_aload_n (pc' := 49) (i := 0) dX11_reserved_48 rfl rfl rfl ?_
        refine me_iload_n (pc' := 50) (i := 3) dX11_reserved_49 rfl rfl rfl ?_
        refine me_callV (As := [.int w11]) (st := [.int w10]) (F' := (mm_Sq q)) (G' := (mm_Sq q)) (F'' := (mm_Sq q)) (pc' := 53) dX11_reserved_50 rfl mfX11_held rfl lkX11_94 kd_352 rfl (mm_ltm kd_352 hN) ⟨Nat.le_of_ble_eq_true rfl, Nat.le_of_ble_eq_true rfl⟩ (Nat.le_of_ble_eq_true rfl) (fun z => z) (rX11_held (q := q) w11 h hN) (fun x22 e23 => Or.inl ⟨_, _, rfl, fun z => z, ?_⟩)
        show mm_E2 _ _ _ _ _ [.int x22, .int w10] h _ _
        refine me_goto (tgt := 57) dX11_reserved_53 (by decide) ?_
        exact mm_maskB [true, true, false, true] (j18p x22 w10)
theorem rX11_reserved {q : Nat × Nat} (p0 : Int32) (h : mm_H) (hN : 358 ≤ q.1) : mm_R2 (mm_Sq q) (mm_Sq q) mX11_reserved [.ref 352, .int p0] h (gX11_reserved p0 h) lf_ie := by
  refine mm_body (L := [some (.ref 352), some (.int p0), none, none]) rfl (by decide +kernel) (Nat.le_of_ble_eq_true rfl) rfl ?_
  unfold gX11_reserved
  refine me_aload_n (pc' := 1) (i := 0) dX11_reserved_0 rfl rfl rfl ?_
  refine me_aload_n (pc' := 2) (i := 0) dX11_reserved_1 rfl rfl rfl ?_
  refine me_iload_n (pc' := 3) (i := 1) dX11_reserved_2 rfl rfl rfl ?_
  refine me_callV (As := [.int p0]) (st := [.ref 352]) (F' := (mm_Sq q)) (G' := (mm_Sq q)) (F'' := (mm_Sq q)) (pc' := 6) dX11_reserved_3 rfl mfX11_isProduct rfl lkX11_283 kd_352 rfl (mm_ltm kd_352 hN) ⟨Nat.le_of_ble_eq_true rfl, Nat.le_of_ble_eq_true rfl⟩ (Nat.le_of_ble_eq_true rfl) (fun z => z) (rX11_isProduct (q := q) p0 h hN) (fun x1 e2 => Or.inl ⟨_, _, rfl, fun z => z, ?_⟩)
  show mm_E2 _ _ _ _ _ [.int (mx_bi x1), .ref 352] h _ _
  refine mm_jnI (fun (j59 : Int32 → Option (Int32 × mm_H)) => ∀ (y3 : Int32), mm_E2 (mm_Sq q) (mm_Sq q) mX11_reserved 14 [some (.ref 352), some (.int p0), none, none] [.int y3, .ref 352] h (j59 y3) lf_ie) ?_ (fun j5 j5p => ?_)
  · intro y3
    refine me_iconst (pc' := 15) (v := 0) dX11_reserved_14 rfl kc_i0 ?_
    refine me_iconst (pc' := 16) (v := 0) dX11_reserved_15 rfl kc_i0 ?_
    refine me_callV (As := [.int y3, .int 0, .int 0]) (st := []) (F' := (mm_Sq q)) (G' := (mm_Sq q)) (F'' := (mm_Sq q)) (pc' := 19) dX11_reserved_16 rfl mfX11_fails rfl lkX11_143 kd_352 rfl (mm_ltm kd_352 hN) ⟨Nat.le_of_ble_eq_true rfl, Nat.le_of_ble_eq_true rfl⟩ (Nat.le_of_ble_eq_true rfl) (fun z => z) (rX11_fails (q := q) y3 0 0 h hN) (fun x6 e7 => Or.inl ⟨_, _, rfl, fun z => z, ?_⟩)
    show mm_E2 _ _ _ _ _ [.int (mx_bi x6.1)] x6.2 _ _
    refine me_ifB_eq (pc' := 22) (tgt := 24) dX11_reserved_19 (by decide) rfl (fun c8 => ?_) (fun c8 => ?_)
    · refine me_iconst (pc' := 25) (v := 0) dX11_reserved_24 rfl kc_i0 ?_
      refine me_istore_n (pc' := 26) (i := 2) (L' := [some (.ref 352), some (.int p0), some (.int 0), none]) dX11_reserved_25 rfl rfl (Nat.le_of_ble_eq_true rfl) (Nat.le_of_ble_eq_true rfl) rfl ?_
      refine me_iconst (pc' := 27) (v := 0) dX11_reserved_26 rfl kc_i0 ?_
      refine me_istore_n (pc' := 28) (i := 3) (L' := [some (.ref 352), some (.int p0), some (.int 0), some (.int 0)]) dX11_reserved_27 rfl rfl (Nat.le_of_ble_eq_true rfl) (Nat.le_of_ble_eq_true rfl) rfl ?_
      exact rX11_reserved_L28 (q := q) p0 x6.2 hN mm_F 0 0
    · refine me_iconst (pc' := 23) (v := 0) dX11_reserved_22 rfl kc_i0 ?_
      exact me_iret dX11_reserved_23 rfl (fun z => z) rfl
  refine me_ifB_ne (pc' := 9) (tgt := 13) dX11_reserved_6 (by decide) rfl (fun c24 => ?_) (fun c24 => ?_)
  · refine me_iconst (pc' := 14) (v := 0) dX11_reserved_13 rfl kc_i0 ?_
    exact j5p 0
  · refine me_iconst (pc' := 10) (v := 1) dX11_reserved_9 rfl kc_i1 ?_
    refine me_goto (tgt := 14) dX11_reserved_10 (by decide) ?_
    exact j5p 1
def gX11_availableOn (p0 : Int32) (p1 : Int32) (h : mm_H) : Option (Int32 × mm_H) :=
(gX11_isProduct p0 h).bind (fun (x1 : Bool) =>
mm_jn (fun (y3 : Int32) =>
(gX11_in p1 0 9999 h).bind (fun (x6 : Bool) =>
mm_jn (fun (y8 : Int32) (y9 : Int32) =>
(gX11_fails y9 y8 0 h).bind (fun (x12 : (Bool × mm_H)) =>
if x12.1 = true then
some (0, x12.2)
else
(gX11_available p0 p1 x12.2).bind (fun (x15 : Int32) =>
some (x15, x12.2)))) (fun (j11 : Int32 → Int32 → Option (Int32 × mm_H)) =>
if x6 = true then
j11 0 y3
else
j11 1 y3))) (fun (j5 : Int32 → Option (Int32 × mm_H)) =>
if x1 = true then
j5 0
else
j5 1))
theorem rX11_availableOn {q : Nat × Nat} (p0 : Int32) (p1 : Int32) (h : mm_H) (hN : 358 ≤ q.1) : mm_R2 (mm_Sq q) (mm_Sq q) mX11_availableOn [.ref 352, .int p0, .int p1] h (gX11_availableOn p0 p1 h) lf_ie := by
  refine mm_body (L := [some (.ref 352), some (.int p0), some (.int p1)]) rfl (by decide +kernel) (Nat.le_of_ble_eq_true rfl) rfl ?_
  unfold gX11_availableOn
  refine me_aload_n (pc' := 1) (i := 0) dX11_availableOn_0 rfl rfl rfl ?_
  refine me_aload_n (pc' := 2) (i := 0) dX11_availableOn_1 rfl rfl rfl ?_
  refine me_iload_n (pc' := 3) (i := 1) dX11_availableOn_2 rfl rfl rfl ?_
  refine me_callV (As := [.int p0]) (st := [.ref 352]) (F' := (mm_Sq q)) (G' := (mm_Sq q)) (F'' := (mm_Sq q)) (pc' := 6) dX11_availableOn_3 rfl mfX11_isProduct rfl lkX11_283 kd_352 rfl (mm_ltm kd_352 hN) ⟨Nat.le_of_ble_eq_true rfl, Nat.le_of_ble_eq_true rfl⟩ (Nat.le_of_ble_eq_true rfl) (fun z => z) (rX11_isProduct (q := q) p0 h hN) (fun x1 e2 => Or.inl ⟨_, _, rfl, fun z => z, ?_⟩)
  show mm_E2 _ _ _ _ _ [.int (mx_bi x1), .ref 352] h _ _
  refine mm_jnI (fun (j59 : Int32 → Option (Int32 × mm_H)) => ∀ (y3 : Int32), mm_E2 (mm_Sq q) (mm_Sq q) mX11_availableOn 14 [some (.ref 352), some (.int p0), some (.int p1)] [.int y3, .ref 352] h (j59 y3) lf_ie) ?_ (fun j5 j5p => ?_)
  · intro y3
    refine me_iload_n (pc' := 15) (i := 2) dX11_availableOn_14 rfl rfl rfl ?_
    refine me_iconst (pc' := 16) (v := 0) dX11_availableOn_15 rfl kc_i0 ?_
    refine me_sipush (pc' := 19) (v := 9999) dX11_availableOn_16 rfl kc_s9999 ?_
    refine me_callS (As := [.int p1, .int 0, .int 9999]) (st := [.int y3, .ref 352]) (F' := (mm_Sq q)) (G' := (mm_Sq q)) (F'' := (mm_Sq q)) (pc' := 22) dX11_availableOn_19 rfl mfX11_in rfl lkX11_75 ⟨Nat.le_of_ble_eq_true rfl, Nat.le_of_ble_eq_true rfl⟩ (Nat.le_of_ble_eq_true rfl) (fun z => z) (rX11_in (q := q) p1 0 9999 h hN) (fun x6 e7 => Or.inl ⟨_, _, rfl, fun z => z, ?_⟩)
    show mm_E2 _ _ _ _ _ [.int (mx_bi x6), .int y3, .ref 352] h _ _
    refine mm_jnI (fun (j119 : Int32 → Int32 → Option (Int32 × mm_H)) => ∀ (y8 : Int32) (y9 : Int32), mm_E2 (mm_Sq q) (mm_Sq q) mX11_availableOn 30 [some (.ref 352), some (.int p0), some (.int p1)] [.int y8, .int y9, .ref 352] h (j119 y8 y9) lf_ie) ?_ (fun j11 j11p => ?_)
    · intro y8 y9
      refine me_iconst (pc' := 31) (v := 0) dX11_availableOn_30 rfl kc_i0 ?_
      refine me_callV (As := [.int y9, .int y8, .int 0]) (st := []) (F' := (mm_Sq q)) (G' := (mm_Sq q)) (F'' := (mm_Sq q)) (pc' := 34) dX11_availableOn_31 rfl mfX11_fails rfl lkX11_143 kd_352 rfl (mm_ltm kd_352 hN) ⟨Nat.le_of_ble_eq_true rfl, Nat.le_of_ble_eq_true rfl⟩ (Nat.le_of_ble_eq_true rfl) (fun z => z) (rX11_fails (q := q) y9 y8 0 h hN) (fun x12 e13 => Or.inl ⟨_, _, rfl, fun z => z, ?_⟩)
      show mm_E2 _ _ _ _ _ [.int (mx_bi x12.1)] x12.2 _ _
      refine me_ifB_eq (pc' := 37) (tgt := 39) dX11_availableOn_34 (by decide) rfl (fun c14 => ?_) (fun c14 => ?_)
      · refine me_aload_n (pc' := 40) (i := 0) dX11_availableOn_39 rfl rfl rfl ?_
        refine me_iload_n (pc' := 41) (i := 1) dX11_availableOn_40 rfl rfl rfl ?_
        refine me_iload_n (pc' := 42) (i := 2) dX11_availableOn_41 rfl rfl rfl ?_
        refine me_callV (As := [.int p0, .int p1]) (st := []) (F' := (mm_Sq q)) (G' := (mm_Sq q)) (F'' := (mm_Sq q)) (pc' := 45) dX11_availableOn_42 rfl mfX11_available rfl lkX11_130 kd_352 rfl (mm_ltm kd_352 hN) ⟨Nat.le_of_ble_eq_true rfl, Nat.le_of_ble_eq_true rfl⟩ (Nat.le_of_ble_eq_true rfl) (fun z => z) (rX11_available (q := q) p0 p1 x12.2 hN) (fun x15 e16 => Or.inl ⟨_, _, rfl, fun z => z, ?_⟩)
        show mm_E2 _ _ _ _ _ [.int x15] x12.2 _ _
        exact me_iret dX11_availableOn_45 rfl (fun z => z) rfl
      · refine me_iconst (pc' := 38) (v := 0) dX11_availableOn_37 rfl kc_i0 ?_
        exact me_iret dX11_availableOn_38 rfl (fun z => z) rfl
    refine me_ifB_ne (pc' := 25) (tgt := 29) dX11_availableOn_22 (by decide) rfl (fun c17 => ?_) (fun c17 => ?_)
    · refine me_iconst (pc' := 30) (v := 0) dX11_availableOn_29 rfl kc_i0 ?_
      exact j11p 0 y3
    · refine me_iconst (pc' := 26) (v := 1) dX11_availableOn_25 rfl kc_i1 ?_
      refine me_goto (tgt := 30) dX11_availableOn_26 (by decide) ?_
      exact j11p 1 y3
  refine me_ifB_ne (pc' := 9) (tgt := 13) dX11_availableOn_6 (by decide) rfl (fun c18 => ?_) (fun c18 => ?_)
  · refine me_iconst (pc' := 14) (v := 0) dX11_availableOn_13 rfl kc_i0 ?_
    exact j5p 0
  · refine me_iconst (pc' := 10) (v := 1) dX11_availableOn_9 rfl kc_i1 ?_
    refine me_goto (tgt := 14) dX11_availableOn_10 (by decide) ?_
    exact j5p 1
def gX11_expired_L28 (u9 : Int32) (h : mm_H) : Nat → Int32 → Int32 → Option (Int32 × mm_H)
  | 0, _, _ => none
  | n + 1, w10, w11 =>
    if mm_ibd 2 4200 = true then
    if w11 < (mh_I h 353 (Int32.toNatClampNeg (2))) then
    (gX11_isOf w11 u9 h).bind (fun (x14 : Bool) =>
    mm_jn (fun (y16 : Int32) (y17 : Int32) =>
    (some ((y17 + y16))).bind (fun (x19 : Int32) =>
    (some (w11 + 1)).bind (fun (x20 : Int32) =>
    gX11_expired_L28 u9 h n x19 x20))) (fun (j18 : Int32 → Int32 → Option (Int32 × mm_H)) =>
    mm_jn (fun (y21 : Int32) =>
    j18 0 y21) (fun (j22 : Int32 → Option (Int32 × mm_H)) =>
    if x14 = true then
    (gX11_isPast w11 h).bind (fun (x24 : Bool) =>
    if x24 = true then
    (gX11_ofBatch w11 1 h).bind (fun (x27 : Int32) =>
    j18 x27 w10)
    else
    j22 w10)
    else
    j22 w10)))
    else
    some (w10, h) else none
def gX11_expired (p0 : Int32) (h : mm_H) : Option (Int32 × mm_H) :=
(gX11_isProduct p0 h).bind (fun (x1 : Bool) =>
mm_jn (fun (y3 : Int32) =>
(gX11_fails y3 0 0 h).bind (fun (x6 : (Bool × mm_H)) =>
if x6.1 = true then
some (0, x6.2)
else
gX11_expired_L28 p0 x6.2 mm_F 0 0)) (fun (j5 : Int32 → Option (Int32 × mm_H)) =>
if x1 = true then
j5 0
else
j5 1))
theorem rX11_expired_L28 {q : Nat × Nat}  (u9 : Int32)  (h : mm_H)  (hN : 358 ≤ q.1) : ∀ (n : Nat) (w10 : Int32) (w11 : Int32), mm_E2 (mm_Sq q) (mm_Sq q) mX11_expired 28 [some (.ref 352), some (.int u9), some (.int w10), some (.int w11)] [] h (gX11_expired_L28 u9 h n w10 w11) lf_ie := by
  intro n
  induction n with
  | zero =>
    intro w10 w11
    exact mm_none
  | succ n ih =>
    intro w10 w11
    rw [gX11_expired_L28]
    refine me_iload_n (pc' := 29) (i := 3) dX11_expired_28 rfl rfl rfl ?_
    refine me_aload_n (pc' := 30) (i := 0) dX11_expired_29 rfl rfl rfl ?_
    refine me_getR (pc' := 33) (q' := 353) dX11_expired_30 rfl fkX11_13 kd_352 (mm_ltm kd_352 hN) rfl (mrX11_0 hN) ?_
    refine me_iconst (pc' := 34) (v := 2) dX11_expired_33 rfl kc_i2 ?_
    refine mm_guard (fun c12 => ?_)
    refine me_iald (pc' := 35) dX11_expired_34 rfl kd_353 (mm_ltm kd_353 hN) (mm_ibd_of c12) ?_
    refine me_icmp_ge (pc' := 38) (tgt := 74) dX11_expired_35 (by decide) rfl (fun c13 => ?_) (fun c13 => ?_)
    · refine me_iload_n (pc' := 75) (i := 2) dX11_expired_74 rfl rfl rfl ?_
      exact me_iret dX11_expired_75 rfl (fun z => z) rfl
    · refine me_iload_n (pc' := 39) (i := 2) dX11_expired_38 rfl rfl rfl ?_
      refine me_aload_n (pc' := 40) (i := 0) dX11_expired_39 rfl rfl rfl ?_
      refine me_iload_n (pc' := 41) (i := 3) dX11_expired_40 rfl rfl rfl ?_
      refine me_iload_n (pc' := 42) (i := 1) dX11_expired_41 rfl rfl rfl ?_
      refine me_callV (As := [.int w11, .int u9]) (st := [.int w10]) (F' := (mm_Sq q)) (G' := (mm_Sq q)) (F'' := (mm_Sq q)) (pc' := 45) dX11_expired_42 rfl mfX11_isOf rfl lkX11_98 kd_352 rfl (mm_ltm kd_352 hN) ⟨Nat.le_of_ble_eq_true rfl, Nat.le_of_ble_eq_true rfl⟩ (Nat.le_of_ble_eq_true rfl) (fun z => z) (rX11_isOf (q := q) w11 u9 h hN) (fun x14 e15 => Or.inl ⟨_, _, rfl, fun z => z, ?_⟩)
      show mm_E2 _ _ _ _ _ [.int (mx_bi x14), .int w10] h _ _
      refine mm_jnI (fun (j189 : Int32 → Int32 → Option (Int32 × mm_H)) => ∀ (y16 : Int32) (y17 : Int32), mm_E2 (mm_Sq q) (mm_Sq q) mX11_expired 66 [some (.ref 352), some (.int u9), none, some (.int w11)] [.int y16, .int y17] h (j189 y16 y17) lf_ie) ?_ (fun j18 j18p => ?_)
      · intro y16 y17
        refine me_iadd (pc' := 67) dX11_expired_66 rfl ?_
        refine mm_bnd ((y17 + y16)) (fun x19 => [some (.ref 352), some (.int u9), none, some (.int w11)]) (fun x19 => [.int x19]) (fun _ => h) (fun x19 => ?_)
        refine me_istore_n (pc' := 68) (i := 2) (L' := [some (.ref 352), some (.int u9), some (.int x19), some (.int w11)]) dX11_expired_67 rfl rfl (Nat.le_of_ble_eq_true rfl) (Nat.le_of_ble_eq_true rfl) rfl ?_
        refine me_iinc (pc' := 71) (i := 3) (x := w11) (y := w11 + 1) (L' := [some (.ref 352), some (.int u9), some (.int x19), some (.int (w11 + 1))]) dX11_expired_68 rfl (Nat.le_of_ble_eq_true rfl) (Nat.le_of_ble_eq_true rfl) rfl (kc_plus kc_i1) rfl ?_
        refine mm_bnd (w11 + 1) (fun x20 => [some (.ref 352), some (.int u9), some (.int x19), some (.int x20)]) (fun _ => []) (fun _ => h) (fun x20 => ?_)
        refine me_goto (tgt := 28) dX11_expired_71 (by decide) ?_
        exact ih x19 x20
      refine mm_jnI (fun (j229 : Int32 → Option (Int32 × mm_H)) => ∀ (y21 : Int32), mm_E2 (mm_Sq q) (mm_Sq q) mX11_expired 65 [some (.ref 352), some (.int u9), none, some (.int w11)] [.int y21] h (j229 y21) lf_ie) ?_ (fun j22 j22p => ?_)
      · intro y21
        refine me_iconst (pc' := 66) (v := 0) dX11_expired_65 rfl kc_i0 ?_
        exact j18p 0 y21
      refine me_ifB_eq (pc' := 48) (tgt := 65) dX11_expired_45 (by decide) rfl (fun c23 => ?_) (fun c23 => ?_)
      · exact mm_maskB [true, true, false, true] (j22p w10)
      · refine me_aload_n (pc' := 49) (i := 0) dX11_expired_48 rfl rfl rfl ?_
        refine me_iload_n (pc' := 50) (i := 3) dX11_expired_49 rfl rfl rfl ?_
        refine me_callV (As := [.int w11]) (st := [.int w10]) (F' := (mm_Sq q)) (G' := (mm_Sq q)) (F'' := (mm_Sq q)) (pc' := 53) dX11_expired_50 rfl mfX11_isPast rfl lkX11_124 kd_352 rfl (mm_ltm kd_352 hN) ⟨Nat.le_of_ble_eq_true rfl, Nat.le_of_ble_eq_true rfl⟩ (Nat.le_of_ble_eq_true rfl) (fun z => z) (rX11_isPast (q := q) w11 h hN) (fun x24 e25 => Or.inl ⟨_, _, rfl, fun z => z, ?_⟩)
        show mm_E2 _ _ _ _ _ [.int (mx_bi x24), .int w10] h _ _
        refine me_ifB_eq (pc' := 56) (tgt := 65) dX11_expired_53 (by decide) rfl (fun c26 => ?_) (fun c26 => ?_)
        · exact mm_maskB [true, true, false, true] (j22p w10)
        · refine me_aload_n (pc' := 57) (i := 0) dX11_expired_56 rfl rfl rfl ?_
          refine me_iload_n (pc' := 58) (i := 3) dX11_expired_57 rfl rfl rfl ?_
          refine me_iconst (pc' := 59) (v := 1) dX11_expired_58 rfl kc_i1 ?_
          refine me_callV (As := [.int w11, .int 1]) (st := [.int w10]) (F' := (mm_Sq q)) (G' := (mm_Sq q)) (F'' := (mm_Sq q)) (pc' := 62) dX11_expired_59 rfl mfX11_ofBatch rfl lkX11_91 kd_352 rfl (mm_ltm kd_352 hN) ⟨Nat.le_of_ble_eq_true rfl, Nat.le_of_ble_eq_true rfl⟩ (Nat.le_of_ble_eq_true rfl) (fun z => z) (rX11_ofBatch (q := q) w11 1 h hN) (fun x27 e28 => Or.inl ⟨_, _, rfl, fun z => z, ?_⟩)
          show mm_E2 _ _ _ _ _ [.int x27, .int w10] h _ _
          refine me_goto (tgt := 66) dX11_expired_62 (by decide) ?_
          exact mm_maskB [true, true, false, true] (j18p x27 w10)
theorem rX11_expired {q : Nat × Nat} (p0 : Int32) (h : mm_H) (hN : 358 ≤ q.1) : mm_R2 (mm_Sq q) (mm_Sq q) mX11_expired [.ref 352, .int p0] h (gX11_expired p0 h) lf_ie := by
  refine mm_body (L := [some (.ref 352), some (.int p0), none, none]) rfl (by decide +kernel) (Nat.le_of_ble_eq_true rfl) rfl ?_
  unfold gX11_expired
  refine me_aload_n (pc' := 1) (i := 0) dX11_expired_0 rfl rfl rfl ?_
  refine me_aload_n (pc' := 2) (i := 0) dX11_expired_1 rfl rfl rfl ?_
  refine me_iload_n (pc' := 3) (i := 1) dX11_expired_2 rfl rfl rfl ?_
  refine me_callV (As := [.int p0]) (st := [.ref 352]) (F' := (mm_Sq q)) (G' := (mm_Sq q)) (F'' := (mm_Sq q)) (pc' := 6) dX11_expired_3 rfl mfX11_isProduct rfl lkX11_283 kd_352 rfl (mm_ltm kd_352 hN) ⟨Nat.le_of_ble_eq_true rfl, Nat.le_of_ble_eq_true rfl⟩ (Nat.le_of_ble_eq_true rfl) (fun z => z) (rX11_isProduct (q := q) p0 h hN) (fun x1 e2 => Or.inl ⟨_, _, rfl, fun z => z, ?_⟩)
  show mm_E2 _ _ _ _ _ [.int (mx_bi x1), .ref 352] h _ _
  refine mm_jnI (fun (j59 : Int32 → Option (Int32 × mm_H)) => ∀ (y3 : Int32), mm_E2 (mm_Sq q) (mm_Sq q) mX11_expired 14 [some (.ref 352), some (.int p0), none, none] [.int y3, .ref 352] h (j59 y3) lf_ie) ?_ (fun j5 j5p => ?_)
  · intro y3
    refine me_iconst (pc' := 15) (v := 0) dX11_expired_14 rfl kc_i0 ?_
    refine me_iconst (pc' := 16) (v := 0) dX11_expired_15 rfl kc_i0 ?_
    refine me_callV (As := [.int y3, .int 0, .int 0]) (st := []) (F' := (mm_Sq q)) (G' := (mm_Sq q)) (F'' := (mm_Sq q)) (pc' := 19) dX11_expired_16 rfl mfX11_fails rfl lkX11_143 kd_352 rfl (mm_ltm kd_352 hN) ⟨Nat.le_of_ble_eq_true rfl, Nat.le_of_ble_eq_true rfl⟩ (Nat.le_of_ble_eq_true rfl) (fun z => z) (rX11_fails (q := q) y3 0 0 h hN) (fun x6 e7 => Or.inl ⟨_, _, rfl, fun z => z, ?_⟩)
    show mm_E2 _ _ _ _ _ [.int (mx_bi x6.1)] x6.2 _ _
    refine me_ifB_eq (pc' := 22) (tgt := 24) dX11_expired_19 (by decide) rfl (fun c8 => ?_) (fun c8 => ?_)
    · refine me_iconst (pc' := 25) (v := 0) dX11_expired_24 rfl kc_i0 ?_
      refine me_istore_n (pc' := 26) (i := 2) (L' := [some (.ref 352), some (.int p0), some (.int 0), none]) dX11_expired_25 rfl rfl (Nat.le_of_ble_eq_true rfl) (Nat.le_of_ble_eq_true rfl) rfl ?_
      refine me_iconst (pc' := 27) (v := 0) dX11_expired_26 rfl kc_i0 ?_
      refine me_istore_n (pc' := 28) (i := 3) (L' := [some (.ref 352), some (.int p0), some (.int 0), some (.int 0)]) dX11_expired_27 rfl rfl (Nat.le_of_ble_eq_true rfl) (Nat.le_of_ble_eq_true rfl) rfl ?_
      exact rX11_expired_L28 (q := q) p0 x6.2 hN mm_F 0 0
    · refine me_iconst (pc' := 23) (v := 0) dX11_expired_22 rfl kc_i0 ?_
      exact me_iret dX11_expired_23 rfl (fun z => z) rfl
  refine me_ifB_ne (pc' := 9) (tgt := 13) dX11_expired_6 (by decide) rfl (fun c29 => ?_) (fun c29 => ?_)
  · refine me_iconst (pc' := 14) (v := 0) dX11_expired_13 rfl kc_i0 ?_
    exact j5p 0
  · refine me_iconst (pc' := 10) (v := 1) dX11_expired_9 rfl kc_i1 ?_
    refine me_goto (tgt := 14) dX11_expired_10 (by decide) ?_
    exact j5p 1
def gX11_expiringWithin_L44 (u15 : Int32) (u16 : Int32) (h : mm_H) : Nat → Int32 → Int32 → Option (Int32 × mm_H)
  | 0, _, _ => none
  | n + 1, w17, w18 =>
    if mm_ibd 2 4200 = true then
    if w18 < (mh_I h 353 (Int32.toNatClampNeg (2))) then
    (gX11_isPast w18 h).bind (fun (x21 : Bool) =>
    mm_jn (fun (y23 : Int32) =>
    (gX11_isOf w18 u15 h).bind (fun (x25 : Bool) =>
    mm_jn (fun (y27 : Int32) (y28 : Int32) =>
    (some ((y28 + y27))).bind (fun (x30 : Int32) =>
    (some (w18 + 1)).bind (fun (x31 : Int32) =>
    gX11_expiringWithin_L44 u15 u16 h n x30 x31))) (fun (j29 : Int32 → Int32 → Option (Int32 × mm_H)) =>
    mm_jn (fun (y32 : Int32) =>
    j29 0 y32) (fun (j33 : Int32 → Option (Int32 × mm_H)) =>
    if x25 = true then
    if y23 = 0 then
    j33 w17
    else
    (gX11_ofBatch w18 1 h).bind (fun (x36 : Int32) =>
    j29 x36 w17)
    else
    j33 w17)))) (fun (j24 : Int32 → Option (Int32 × mm_H)) =>
    mm_jn (fun (_ : Unit) =>
    j24 0) (fun (j38 : Unit → Option (Int32 × mm_H)) =>
    if x21 = true then
    j38 ()
    else
    (gX11_ofBatch w18 2 h).bind (fun (x40 : Int32) =>
    if mm_ibd 0 4200 = true then
    if ((mh_I h 353 (Int32.toNatClampNeg (0))) + u16) < x40 then
    j38 ()
    else
    j24 1 else none))))
    else
    some (w17, h) else none
def gX11_expiringWithin (p0 : Int32) (p1 : Int32) (h : mm_H) : Option (Int32 × mm_H) :=
(gX11_isProduct p0 h).bind (fun (x1 : Bool) =>
mm_jn (fun (y3 : Int32) =>
(gX11_in p1 0 999 h).bind (fun (x6 : Bool) =>
mm_jn (fun (y8 : Int32) (y9 : Int32) =>
(gX11_fails y9 y8 0 h).bind (fun (x12 : (Bool × mm_H)) =>
if x12.1 = true then
some (0, x12.2)
else
gX11_expiringWithin_L44 p0 p1 x12.2 mm_F 0 0)) (fun (j11 : Int32 → Int32 → Option (Int32 × mm_H)) =>
if x6 = true then
j11 0 y3
else
j11 1 y3))) (fun (j5 : Int32 → Option (Int32 × mm_H)) =>
if x1 = true then
j5 0
else
j5 1))
theorem rX11_expiringWithin_L44 {q : Nat × Nat}  (u15 : Int32) (u16 : Int32)  (h : mm_H)  (hN : 358 ≤ q.1) : ∀ (n : Nat) (w17 : Int32) (w18 : Int32), mm_E2 (mm_Sq q) (mm_Sq q) mX11_expiringWithin 44 [some (.ref 352), some (.int u15), some (.int u16), some (.int w17), some (.int w18), none] [] h (gX11_expiringWithin_L44 u15 u16 h n w17 w18) lf_ie := by
  intro n
  induction n with
  | zero =>
    intro w17 w18
    exact mm_none
  | succ n ih =>
    intro w17 w18
    rw [gX11_expiringWithin_L44]
    refine me_iload (pc' := 46) (i := 4) dX11_expiringWithin_44 rfl rfl ?_
    refine me_aload_n (pc' := 47) (i := 0) dX11_expiringWithin_46 rfl rfl rfl ?_
    refine me_getR (pc' := 50) (q' := 353) dX11_expiringWithin_47 rfl fkX11_13 kd_352 (mm_ltm kd_352 hN) rfl (mrX11_0 hN) ?_
    refine me_iconst (pc' := 51) (v := 2) dX11_expiringWithin_50 rfl kc_i2 ?_
    refine mm_guard (fun c19 => ?_)
    refine me_iald (pc' := 52) dX11_expiringWithin_51 rfl kd_353 (mm_ltm kd_353 hN) (mm_ibd_of c19) ?_
    refine me_icmp_ge (pc' := 55) (tgt := 124) dX11_expiringWithin_52 (by decide) rfl (fun c20 => ?_) (fun c20 => ?_)
    · refine me_iload_n (pc' := 125) (i := 3) dX11_expiringWithin_124 rfl rfl rfl ?_
      exact me_iret dX11_expiringWithin_125 rfl (fun z => z) rfl
    · refine me_aload_n (pc' := 56) (i := 0) dX11_expiringWithin_55 rfl rfl rfl ?_
      refine me_iload (pc' := 58) (i := 4) dX11_expiringWithin_56 rfl rfl ?_
      refine me_callV (As := [.int w18]) (st := []) (F' := (mm_Sq q)) (G' := (mm_Sq q)) (F'' := (mm_Sq q)) (pc' := 61) dX11_expiringWithin_58 rfl mfX11_isPast rfl lkX11_124 kd_352 rfl (mm_ltm kd_352 hN) ⟨Nat.le_of_ble_eq_true rfl, Nat.le_of_ble_eq_true rfl⟩ (Nat.le_of_ble_eq_true rfl) (fun z => z) (rX11_isPast (q := q) w18 h hN) (fun x21 e22 => Or.inl ⟨_, _, rfl, fun z => z, ?_⟩)
      show mm_E2 _ _ _ _ _ [.int (mx_bi x21)] h _ _
      refine mm_jnI (fun (j249 : Int32 → Option (Int32 × mm_H)) => ∀ (y23 : Int32), mm_E2 (mm_Sq q) (mm_Sq q) mX11_expiringWithin 87 [some (.ref 352), some (.int u15), some (.int u16), some (.int w17), some (.int w18), none] [.int y23] h (j249 y23) lf_ie) ?_ (fun j24 j24p => ?_)
      · intro y23
        refine me_istore (pc' := 89) (i := 5) (L' := [some (.ref 352), some (.int u15), some (.int u16), some (.int w17), some (.int w18), some (.int y23)]) dX11_expiringWithin_87 rfl (Nat.le_of_ble_eq_true rfl) (Nat.le_of_ble_eq_true rfl) rfl ?_
        refine me_iload_n (pc' := 90) (i := 3) dX11_expiringWithin_89 rfl rfl rfl ?_
        refine me_aload_n (pc' := 91) (i := 0) dX11_expiringWithin_90 rfl rfl rfl ?_
        refine me_iload (pc' := 93) (i := 4) dX11_expiringWithin_91 rfl rfl ?_
        refine me_iload_n (pc' := 94) (i := 1) dX11_expiringWithin_93 rfl rfl rfl ?_
        refine me_callV (As := [.int w18, .int u15]) (st := [.int w17]) (F' := (mm_Sq q)) (G' := (mm_Sq q)) (F'' := (mm_Sq q)) (pc' := 97) dX11_expiringWithin_94 rfl mfX11_isOf rfl lkX11_98 kd_352 rfl (mm_ltm kd_352 hN) ⟨Nat.le_of_ble_eq_true rfl, Nat.le_of_ble_eq_true rfl⟩ (Nat.le_of_ble_eq_true rfl) (fun z => z) (rX11_isOf (q := q) w18 u15 h hN) (fun x25 e26 => Or.inl ⟨_, _, rfl, fun z => z, ?_⟩)
        show mm_E2 _ _ _ _ _ [.int (mx_bi x25), .int w17] h _ _
        refine mm_jnI (fun (j299 : Int32 → Int32 → Option (Int32 × mm_H)) => ∀ (y27 : Int32) (y28 : Int32), mm_E2 (mm_Sq q) (mm_Sq q) mX11_expiringWithin 116 [some (.ref 352), some (.int u15), some (.int u16), none, some (.int w18), none] [.int y27, .int y28] h (j299 y27 y28) lf_ie) ?_ (fun j29 j29p => ?_)
        · intro y27 y28
          refine me_iadd (pc' := 117) dX11_expiringWithin_116 rfl ?_
          refine mm_bnd ((y28 + y27)) (fun x30 => [some (.ref 352), some (.int u15), some (.int u16), none, some (.int w18), none]) (fun x30 => [.int x30]) (fun _ => h) (fun x30 => ?_)
          refine me_istore_n (pc' := 118) (i := 3) (L' := [some (.ref 352), some (.int u15), some (.int u16), some (.int x30), some (.int w18), none]) dX11_expiringWithin_117 rfl rfl (Nat.le_of_ble_eq_true rfl) (Nat.le_of_ble_eq_true rfl) rfl ?_
          refine me_iinc (pc' := 121) (i := 4) (x := w18) (y := w18 + 1) (L' := [some (.ref 352), some (.int u15), some (.int u16), some (.int x30), some (.int (w18 + 1)), none]) dX11_expiringWithin_118 rfl (Nat.le_of_ble_eq_true rfl) (Nat.le_of_ble_eq_true rfl) rfl (kc_plus kc_i1) rfl ?_
          refine mm_bnd (w18 + 1) (fun x31 => [some (.ref 352), some (.int u15), some (.int u16), some (.int x30), some (.int x31), none]) (fun _ => []) (fun _ => h) (fun x31 => ?_)
          refine me_goto (tgt := 44) dX11_expiringWithin_121 (by decide) ?_
          exact ih x30 x31
        refine mm_jnI (fun (j339 : Int32 → Option (Int32 × mm_H)) => ∀ (y32 : Int32), mm_E2 (mm_Sq q) (mm_Sq q) mX11_expiringWithin 115 [some (.ref 352), some (.int u15), some (.int u16), none, some (.int w18), none] [.int y32] h (j339 y32) lf_ie) ?_ (fun j33 j33p => ?_)
        · intro y32
          refine me_iconst (pc' := 116) (v := 0) dX11_expiringWithin_115 rfl kc_i0 ?_
          exact j29p 0 y32
        refine me_ifB_eq (pc' := 100) (tgt := 115) dX11_expiringWithin_97 (by decide) rfl (fun c34 => ?_) (fun c34 => ?_)
        · exact mm_maskB [true, true, true, false, true, false] (j33p w17)
        · refine me_iload (pc' := 102) (i := 5) dX11_expiringWithin_100 rfl rfl ?_
          refine me_if_eq (pc' := 105) (tgt := 115) dX11_expiringWithin_102 (by decide) rfl (fun c35 => ?_) (fun c35 => ?_)
          · exact mm_maskB [true, true, true, false, true, false] (j33p w17)
          · refine me_aload_n (pc' := 106) (i := 0) dX11_expiringWithin_105 rfl rfl rfl ?_
            refine me_iload (pc' := 108) (i := 4) dX11_expiringWithin_106 rfl rfl ?_
            refine me_iconst (pc' := 109) (v := 1) dX11_expiringWithin_108 rfl kc_i1 ?_
            refine me_callV (As := [.int w18, .int 1]) (st := [.int w17]) (F' := (mm_Sq q)) (G' := (mm_Sq q)) (F'' := (mm_Sq q)) (pc' := 112) dX11_expiringWithin_109 rfl mfX11_ofBatch rfl lkX11_91 kd_352 rfl (mm_ltm kd_352 hN) ⟨Nat.le_of_ble_eq_true rfl, Nat.le_of_ble_eq_true rfl⟩ (Nat.le_of_ble_eq_true rfl) (fun z => z) (rX11_ofBatch (q := q) w18 1 h hN) (fun x36 e37 => Or.inl ⟨_, _, rfl, fun z => z, ?_⟩)
            show mm_E2 _ _ _ _ _ [.int x36, .int w17] h _ _
            refine me_goto (tgt := 116) dX11_expiringWithin_112 (by decide) ?_
            exact mm_maskB [true, true, true, false, true, false] (j29p x36 w17)
      refine mm_jnI (fun (j389 : Unit → Option (Int32 × mm_H)) => ∀ (_ : Unit), mm_E2 (mm_Sq q) (mm_Sq q) mX11_expiringWithin 86 [some (.ref 352), some (.int u15), some (.int u16), some (.int w17), some (.int w18), none] [] h (j389 ()) lf_ie) ?_ (fun j38 j38p => ?_)
      · intro _
        refine me_iconst (pc' := 87) (v := 0) dX11_expiringWithin_86 rfl kc_i0 ?_
        exact j24p 0
      refine me_ifB_ne (pc' := 64) (tgt := 86) dX11_expiringWithin_61 (by decide) rfl (fun c39 => ?_) (fun c39 => ?_)
      · exact j38p ()
      · refine me_aload_n (pc' := 65) (i := 0) dX11_expiringWithin_64 rfl rfl rfl ?_
        refine me_iload (pc' := 67) (i := 4) dX11_expiringWithin_65 rfl rfl ?_
        refine me_iconst (pc' := 68) (v := 2) dX11_expiringWithin_67 rfl kc_i2 ?_
        refine me_callV (As := [.int w18, .int 2]) (st := []) (F' := (mm_Sq q)) (G' := (mm_Sq q)) (F'' := (mm_Sq q)) (pc' := 71) dX11_expiringWithin_68 rfl mfX11_ofBatch rfl lkX11_91 kd_352 rfl (mm_ltm kd_352 hN) ⟨Nat.le_of_ble_eq_true rfl, Nat.le_of_ble_eq_true rfl⟩ (Nat.le_of_ble_eq_true rfl) (fun z => z) (rX11_ofBatch (q := q) w18 2 h hN) (fun x40 e41 => Or.inl ⟨_, _, rfl, fun z => z, ?_⟩)
        show mm_E2 _ _ _ _ _ [.int x40] h _ _
        refine me_aload_n (pc' := 72) (i := 0) dX11_expiringWithin_71 rfl rfl rfl ?_
        refine me_getR (pc' := 75) (q' := 353) dX11_expiringWithin_72 rfl fkX11_13 kd_352 (mm_ltm kd_352 hN) rfl (mrX11_0 hN) ?_
        refine me_iconst (pc' := 76) (v := 0) dX11_expiringWithin_75 rfl kc_i0 ?_
        refine mm_guard (fun c42 => ?_)
        refine me_iald (pc' := 77) dX11_expiringWithin_76 rfl kd_353 (mm_ltm kd_353 hN) (mm_ibd_of c42) ?_
        refine me_iload_n (pc' := 78) (i := 2) dX11_expiringWithin_77 rfl rfl rfl ?_
        refine me_iadd (pc' := 79) dX11_expiringWithin_78 rfl ?_
        refine me_icmp_gt (pc' := 82) (tgt := 86) dX11_expiringWithin_79 (by decide) rfl (fun c43 => ?_) (fun c43 => ?_)
        · exact j38p ()
        · refine me_iconst (pc' := 83) (v := 1) dX11_expiringWithin_82 rfl kc_i1 ?_
          refine me_goto (tgt := 87) dX11_expiringWithin_83 (by decide) ?_
          exact j24p 1
theorem rX11_expiringWithin {q : Nat × Nat} (p0 : Int32) (p1 : Int32) (h : mm_H) (hN : 358 ≤ q.1) : mm_R2 (mm_Sq q) (mm_Sq q) mX11_expiringWithin [.ref 352, .int p0, .int p1] h (gX11_expiringWithin p0 p1 h) lf_ie := by
  refine mm_body (L := [some (.ref 352), some (.int p0), some (.int p1), none, none, none]) rfl (by decide +kernel) (Nat.le_of_ble_eq_true rfl) rfl ?_
  unfold gX11_expiringWithin
  refine me_aload_n (pc' := 1) (i := 0) dX11_expiringWithin_0 rfl rfl rfl ?_
  refine me_aload_n (pc' := 2) (i := 0) dX11_expiringWithin_1 rfl rfl rfl ?_
  refine me_iload_n (pc' := 3) (i := 1) dX11_expiringWithin_2 rfl rfl rfl ?_
  refine me_callV (As := [.int p0]) (st := [.ref 352]) (F' := (mm_Sq q)) (G' := (mm_Sq q)) (F'' := (mm_Sq q)) (pc' := 6) dX11_expiringWithin_3 rfl mfX11_isProduct rfl lkX11_283 kd_352 rfl (mm_ltm kd_352 hN) ⟨Nat.le_of_ble_eq_true rfl, Nat.le_of_ble_eq_true rfl⟩ (Nat.le_of_ble_eq_true rfl) (fun z => z) (rX11_isProduct (q := q) p0 h hN) (fun x1 e2 => Or.inl ⟨_, _, rfl, fun z => z, ?_⟩)
  show mm_E2 _ _ _ _ _ [.int (mx_bi x1), .ref 352] h _ _
  refine mm_jnI (fun (j59 : Int32 → Option (Int32 × mm_H)) => ∀ (y3 : Int32), mm_E2 (mm_Sq q) (mm_Sq q) mX11_expiringWithin 14 [some (.ref 352), some (.int p0), some (.int p1), none, none, none] [.int y3, .ref 352] h (j59 y3) lf_ie) ?_ (fun j5 j5p => ?_)
  · intro y3
    refine me_iload_n (pc' := 15) (i := 2) dX11_expiringWithin_14 rfl rfl rfl ?_
    refine me_iconst (pc' := 16) (v := 0) dX11_expiringWithin_15 rfl kc_i0 ?_
    refine me_sipush (pc' := 19) (v := 999) dX11_expiringWithin_16 rfl kc_s999 ?_
    refine me_callS (As := [.int p1, .int 0, .int 999]) (st := [.int y3, .ref 352]) (F' := (mm_Sq q)) (G' := (mm_Sq q)) (F'' := (mm_Sq q)) (pc' := 22) dX11_expiringWithin_19 rfl mfX11_in rfl lkX11_75 ⟨Nat.le_of_ble_eq_true rfl, Nat.le_of_ble_eq_true rfl⟩ (Nat.le_of_ble_eq_true rfl) (fun z => z) (rX11_in (q := q) p1 0 999 h hN) (fun x6 e7 => Or.inl ⟨_, _, rfl, fun z => z, ?_⟩)
    show mm_E2 _ _ _ _ _ [.int (mx_bi x6), .int y3, .ref 352] h _ _
    refine mm_jnI (fun (j119 : Int32 → Int32 → Option (Int32 × mm_H)) => ∀ (y8 : Int32) (y9 : Int32), mm_E2 (mm_Sq q) (mm_Sq q) mX11_expiringWithin 30 [some (.ref 352), some (.int p0), some (.int p1), none, none, none] [.int y8, .int y9, .ref 352] h (j119 y8 y9) lf_ie) ?_ (fun j11 j11p => ?_)
    · intro y8 y9
      refine me_iconst (pc' := 31) (v := 0) dX11_expiringWithin_30 rfl kc_i0 ?_
      refine me_callV (As := [.int y9, .int y8, .int 0]) (st := []) (F' := (mm_Sq q)) (G' := (mm_Sq q)) (F'' := (mm_Sq q)) (pc' := 34) dX11_expiringWithin_31 rfl mfX11_fails rfl lkX11_143 kd_352 rfl (mm_ltm kd_352 hN) ⟨Nat.le_of_ble_eq_true rfl, Nat.le_of_ble_eq_true rfl⟩ (Nat.le_of_ble_eq_true rfl) (fun z => z) (rX11_fails (q := q) y9 y8 0 h hN) (fun x12 e13 => Or.inl ⟨_, _, rfl, fun z => z, ?_⟩)
      show mm_E2 _ _ _ _ _ [.int (mx_bi x12.1)] x12.2 _ _
      refine me_ifB_eq (pc' := 37) (tgt := 39) dX11_expiringWithin_34 (by decide) rfl (fun c14 => ?_) (fun c14 => ?_)
      · refine me_iconst (pc' := 40) (v := 0) dX11_expiringWithin_39 rfl kc_i0 ?_
        refine me_istore_n (pc' := 41) (i := 3) (L' := [some (.ref 352), some (.int p0), some (.int p1), some (.int 0), none, none]) dX11_expiringWithin_40 rfl rfl (Nat.le_of_ble_eq_true rfl) (Nat.le_of_ble_eq_true rfl) rfl ?_
        refine me_iconst (pc' := 42) (v := 0) dX11_expiringWithin_41 rfl kc_i0 ?_
        refine me_istore (pc' := 44) (i := 4) (L' := [some (.ref 352), some (.int p0), some (.int p1), some (.int 0), some (.int 0), none]) dX11_expiringWithin_42 rfl (Nat.le_of_ble_eq_true rfl) (Nat.le_of_ble_eq_true rfl) rfl ?_
        exact rX11_expiringWithin_L44 (q := q) p0 p1 x12.2 hN mm_F 0 0
      · refine me_iconst (pc' := 38) (v := 0) dX11_expiringWithin_37 rfl kc_i0 ?_
        exact me_iret dX11_expiringWithin_38 rfl (fun z => z) rfl
    refine me_ifB_ne (pc' := 25) (tgt := 29) dX11_expiringWithin_22 (by decide) rfl (fun c44 => ?_) (fun c44 => ?_)
    · refine me_iconst (pc' := 30) (v := 0) dX11_expiringWithin_29 rfl kc_i0 ?_
      exact j11p 0 y3
    · refine me_iconst (pc' := 26) (v := 1) dX11_expiringWithin_25 rfl kc_i1 ?_
      refine me_goto (tgt := 30) dX11_expiringWithin_26 (by decide) ?_
      exact j11p 1 y3
  refine me_ifB_ne (pc' := 9) (tgt := 13) dX11_expiringWithin_6 (by decide) rfl (fun c45 => ?_) (fun c45 => ?_)
  · refine me_iconst (pc' := 14) (v := 0) dX11_expiringWithin_13 rfl kc_i0 ?_
    exact j5p 0
  · refine me_iconst (pc' := 10) (v := 1) dX11_expiringWithin_9 rfl kc_i1 ?_
    refine me_goto (tgt := 14) dX11_expiringWithin_10 (by decide) ?_
    exact j5p 1
def gX11_stockValue (p0 : Int32) (h : mm_H) : Option (Int32 × mm_H) :=
(gX11_isProduct p0 h).bind (fun (x1 : Bool) =>
mm_jn (fun (y3 : Int32) =>
(gX11_fails y3 0 0 h).bind (fun (x6 : (Bool × mm_H)) =>
if x6.1 = true then
some (0, x6.2)
else
(gX11_worth p0 x6.2).bind (fun (x9 : Int32) =>
some (x9, x6.2)))) (fun (j5 : Int32 → Option (Int32 × mm_H)) =>
if x1 = true then
j5 0
else
j5 1))
theorem rX11_stockValue {q : Nat × Nat} (p0 : Int32) (h : mm_H) (hN : 358 ≤ q.1) : mm_R2 (mm_Sq q) (mm_Sq q) mX11_stockValue [.ref 352, .int p0] h (gX11_stockValue p0 h) lf_ie := by
  refine mm_body (L := [some (.ref 352), some (.int p0)]) rfl (by decide +kernel) (Nat.le_of_ble_eq_true rfl) rfl ?_
  unfold gX11_stockValue
  refine me_aload_n (pc' := 1) (i := 0) dX11_stockValue_0 rfl rfl rfl ?_
  refine me_aload_n (pc' := 2) (i := 0) dX11_stockValue_1 rfl rfl rfl ?_
  refine me_iload_n (pc' := 3) (i := 1) dX11_stockValue_2 rfl rfl rfl ?_
  refine me_callV (As := [.int p0]) (st := [.ref 352]) (F' := (mm_Sq q)) (G' := (mm_Sq q)) (F'' := (mm_Sq q)) (pc' := 6) dX11_stockValue_3 rfl mfX11_isProduct rfl lkX11_283 kd_352 rfl (mm_ltm kd_352 hN) ⟨Nat.le_of_ble_eq_true rfl, Nat.le_of_ble_eq_true rfl⟩ (Nat.le_of_ble_eq_true rfl) (fun z => z) (rX11_isProduct (q := q) p0 h hN) (fun x1 e2 => Or.inl ⟨_, _, rfl, fun z => z, ?_⟩)
  show mm_E2 _ _ _ _ _ [.int (mx_bi x1), .ref 352] h _ _
  refine mm_jnI (fun (j59 : Int32 → Option (Int32 × mm_H)) => ∀ (y3 : Int32), mm_E2 (mm_Sq q) (mm_Sq q) mX11_stockValue 14 [some (.ref 352), some (.int p0)] [.int y3, .ref 352] h (j59 y3) lf_ie) ?_ (fun j5 j5p => ?_)
  · intro y3
    refine me_iconst (pc' := 15) (v := 0) dX11_stockValue_14 rfl kc_i0 ?_
    refine me_iconst (pc' := 16) (v := 0) dX11_stockValue_15 rfl kc_i0 ?_
    refine me_callV (As := [.int y3, .int 0, .int 0]) (st := []) (F' := (mm_Sq q)) (G' := (mm_Sq q)) (F'' := (mm_Sq q)) (pc' := 19) dX11_stockValue_16 rfl mfX11_fails rfl lkX11_143 kd_352 rfl (mm_ltm kd_352 hN) ⟨Nat.le_of_ble_eq_true rfl, Nat.le_of_ble_eq_true rfl⟩ (Nat.le_of_ble_eq_true rfl) (fun z => z) (rX11_fails (q := q) y3 0 0 h hN) (fun x6 e7 => Or.inl ⟨_, _, rfl, fun z => z, ?_⟩)
    show mm_E2 _ _ _ _ _ [.int (mx_bi x6.1)] x6.2 _ _
    refine me_ifB_eq (pc' := 22) (tgt := 24) dX11_stockValue_19 (by decide) rfl (fun c8 => ?_) (fun c8 => ?_)
    · refine me_aload_n (pc' := 25) (i := 0) dX11_stockValue_24 rfl rfl rfl ?_
      refine me_iload_n (pc' := 26) (i := 1) dX11_stockValue_25 rfl rfl rfl ?_
      refine me_callV (As := [.int p0]) (st := []) (F' := (mm_Sq q)) (G' := (mm_Sq q)) (F'' := (mm_Sq q)) (pc' := 29) dX11_stockValue_26 rfl mfX11_worth rfl lkX11_292 kd_352 rfl (mm_ltm kd_352 hN) ⟨Nat.le_of_ble_eq_true rfl, Nat.le_of_ble_eq_true rfl⟩ (Nat.le_of_ble_eq_true rfl) (fun z => z) (rX11_worth (q := q) p0 x6.2 hN) (fun x9 e10 => Or.inl ⟨_, _, rfl, fun z => z, ?_⟩)
      show mm_E2 _ _ _ _ _ [.int x9] x6.2 _ _
      exact me_iret dX11_stockValue_29 rfl (fun z => z) rfl
    · refine me_iconst (pc' := 23) (v := 0) dX11_stockValue_22 rfl kc_i0 ?_
      exact me_iret dX11_stockValue_23 rfl (fun z => z) rfl
  refine me_ifB_ne (pc' := 9) (tgt := 13) dX11_stockValue_6 (by decide) rfl (fun c11 => ?_) (fun c11 => ?_)
  · refine me_iconst (pc' := 14) (v := 0) dX11_stockValue_13 rfl kc_i0 ?_
    exact j5p 0
  · refine me_iconst (pc' := 10) (v := 1) dX11_stockValue_9 rfl kc_i1 ?_
    refine me_goto (tgt := 14) dX11_stockValue_10 (by decide) ?_
    exact j5p 1
def gX11_totalValue_L9 (h : mm_H) : Nat → Int32 → Int32 → Option (Int32 × mm_H)
  | 0, _, _ => none
  | n + 1, w2, w3 =>
    if mm_ibd 1 4200 = true then
    if w3 < (mh_I h 353 (Int32.toNatClampNeg (1))) then
    (gX11_worth w3 h).bind (fun (x6 : Int32) =>
    (some ((w2 + x6))).bind (fun (x8 : Int32) =>
    (some (w3 + 1)).bind (fun (x9 : Int32) =>
    gX11_totalValue_L9 h n x8 x9)))
    else
    some (w2, h) else none
def gX11_totalValue (h : mm_H) : Option (Int32 × mm_H) :=
(some (ms_I h 352 9 0)).bind (fun (h1 : mm_H) =>
gX11_totalValue_L9 h1 mm_F 0 0)
theorem rX11_totalValue_L9 {q : Nat × Nat}    (h : mm_H)  (hN : 358 ≤ q.1) : ∀ (n : Nat) (w2 : Int32) (w3 : Int32), mm_E2 (mm_Sq q) (mm_Sq q) mX11_totalValue 9 [some (.ref 352), some (.int w2), some (.int w3)] [] h (gX11_totalValue_L9 h n w2 w3) lf_ie := by
  intro n
  induction n with
  | zero =>
    intro w2 w3
    exact mm_none
  | succ n ih =>
    intro w2 w3
    rw [gX11_totalValue_L9]
    refine me_iload_n (pc' := 10) (i := 2) dX11_totalValue_9 rfl rfl rfl ?_
    refine me_aload_n (pc' := 11) (i := 0) dX11_totalValue_10 rfl rfl rfl ?_
    refine me_getR (pc' := 14) (q' := 353) dX11_totalValue_11 rfl fkX11_13 kd_352 (mm_ltm kd_352 hN) rfl (mrX11_0 hN) ?_
    refine me_iconst (pc' := 15) (v := 1) dX11_totalValue_14 rfl kc_i1 ?_
    refine mm_guard (fun c4 => ?_)
    refine me_iald (pc' := 16) dX11_totalValue_15 rfl kd_353 (mm_ltm kd_353 hN) (mm_ibd_of c4) ?_
    refine me_icmp_ge (pc' := 19) (tgt := 33) dX11_totalValue_16 (by decide) rfl (fun c5 => ?_) (fun c5 => ?_)
    · refine me_iload_n (pc' := 34) (i := 1) dX11_totalValue_33 rfl rfl rfl ?_
      exact me_iret dX11_totalValue_34 rfl (fun z => z) rfl
    · refine me_iload_n (pc' := 20) (i := 1) dX11_totalValue_19 rfl rfl rfl ?_
      refine me_aload_n (pc' := 21) (i := 0) dX11_totalValue_20 rfl rfl rfl ?_
      refine me_iload_n (pc' := 22) (i := 2) dX11_totalValue_21 rfl rfl rfl ?_
      refine me_callV (As := [.int w3]) (st := [.int w2]) (F' := (mm_Sq q)) (G' := (mm_Sq q)) (F'' := (mm_Sq q)) (pc' := 25) dX11_totalValue_22 rfl mfX11_worth rfl lkX11_292 kd_352 rfl (mm_ltm kd_352 hN) ⟨Nat.le_of_ble_eq_true rfl, Nat.le_of_ble_eq_true rfl⟩ (Nat.le_of_ble_eq_true rfl) (fun z => z) (rX11_worth (q := q) w3 h hN) (fun x6 e7 => Or.inl ⟨_, _, rfl, fun z => z, ?_⟩)
      show mm_E2 _ _ _ _ _ [.int x6, .int w2] h _ _
      refine me_iadd (pc' := 26) dX11_totalValue_25 rfl ?_
      refine mm_bnd ((w2 + x6)) (fun x8 => [some (.ref 352), some (.int w2), some (.int w3)]) (fun x8 => [.int x8]) (fun _ => h) (fun x8 => ?_)
      refine me_istore_n (pc' := 27) (i := 1) (L' := [some (.ref 352), some (.int x8), some (.int w3)]) dX11_totalValue_26 rfl rfl (Nat.le_of_ble_eq_true rfl) (Nat.le_of_ble_eq_true rfl) rfl ?_
      refine me_iinc (pc' := 30) (i := 2) (x := w3) (y := w3 + 1) (L' := [some (.ref 352), some (.int x8), some (.int (w3 + 1))]) dX11_totalValue_27 rfl (Nat.le_of_ble_eq_true rfl) (Nat.le_of_ble_eq_true rfl) rfl (kc_plus kc_i1) rfl ?_
      refine mm_bnd (w3 + 1) (fun x9 => [some (.ref 352), some (.int x8), some (.int x9)]) (fun _ => []) (fun _ => h) (fun x9 => ?_)
      refine me_goto (tgt := 9) dX11_totalValue_30 (by decide) ?_
      exact ih x8 x9
theorem rX11_totalValue {q : Nat × Nat} (h : mm_H) (hN : 358 ≤ q.1) : mm_R2 (mm_Sq q) (mm_Sq q) mX11_totalValue [.ref 352] h (gX11_totalValue h) lf_ie := by
  refine mm_body (L := [some (.ref 352), none, none]) rfl (by decide +kernel) (Nat.le_of_ble_eq_true rfl) rfl ?_
  unfold gX11_totalValue
  refine me_aload_n (pc' := 1) (i := 0) dX11_totalValue_0 rfl rfl rfl ?_
  refine me_iconst (pc' := 2) (v := 0) dX11_totalValue_1 rfl kc_i0 ?_
  refine me_putI (F' := (mm_Sq q)) (pc' := 5) dX11_totalValue_2 rfl fkX11_1 kd_352 (mm_ltm kd_352 hN) rfl pgX11_9 (fun z => z) ?_
  refine mm_bnd (ms_I h 352 9 0) (fun _ => [some (.ref 352), none, none]) (fun _ => []) (fun h1 => h1) (fun h1 => ?_)
  refine me_iconst (pc' := 6) (v := 0) dX11_totalValue_5 rfl kc_i0 ?_
  refine me_istore_n (pc' := 7) (i := 1) (L' := [some (.ref 352), some (.int 0), none]) dX11_totalValue_6 rfl rfl (Nat.le_of_ble_eq_true rfl) (Nat.le_of_ble_eq_true rfl) rfl ?_
  refine me_iconst (pc' := 8) (v := 0) dX11_totalValue_7 rfl kc_i0 ?_
  refine me_istore_n (pc' := 9) (i := 2) (L' := [some (.ref 352), some (.int 0), some (.int 0)]) dX11_totalValue_8 rfl rfl (Nat.le_of_ble_eq_true rfl) (Nat.le_of_ble_eq_true rfl) rfl ?_
  exact rX11_totalValue_L9 (q := q) h1 hN mm_F 0 0
def gX11_reorderQuantity (p0 : Int32) (h : mm_H) : Option (Int32 × mm_H) :=
(gX11_isProduct p0 h).bind (fun (x1 : Bool) =>
mm_jn (fun (y3 : Int32) =>
(gX11_fails y3 0 0 h).bind (fun (x6 : (Bool × mm_H)) =>
if x6.1 = true then
some (0, x6.2)
else
(gX11_toOrder p0 x6.2).bind (fun (x9 : Int32) =>
some (x9, x6.2)))) (fun (j5 : Int32 → Option (Int32 × mm_H)) =>
if x1 = true then
j5 0
else
j5 1))
theorem rX11_reorderQuantity {q : Nat × Nat} (p0 : Int32) (h : mm_H) (hN : 358 ≤ q.1) : mm_R2 (mm_Sq q) (mm_Sq q) mX11_reorderQuantity [.ref 352, .int p0] h (gX11_reorderQuantity p0 h) lf_ie := by
  refine mm_body (L := [some (.ref 352), some (.int p0)]) rfl (by decide +kernel) (Nat.le_of_ble_eq_true rfl) rfl ?_
  unfold gX11_reorderQuantity
  refine me_aload_n (pc' := 1) (i := 0) dX11_reorderQuantity_0 rfl rfl rfl ?_
  refine me_aload_n (pc' := 2) (i := 0) dX11_reorderQuantity_1 rfl rfl rfl ?_
  refine me_iload_n (pc' := 3) (i := 1) dX11_reorderQuantity_2 rfl rfl rfl ?_
  refine me_callV (As := [.int p0]) (st := [.ref 352]) (F' := (mm_Sq q)) (G' := (mm_Sq q)) (F'' := (mm_Sq q)) (pc' := 6) dX11_reorderQuantity_3 rfl mfX11_isProduct rfl lkX11_283 kd_352 rfl (mm_ltm kd_352 hN) ⟨Nat.le_of_ble_eq_true rfl, Nat.le_of_ble_eq_true rfl⟩ (Nat.le_of_ble_eq_true rfl) (fun z => z) (rX11_isProduct (q := q) p0 h hN) (fun x1 e2 => Or.inl ⟨_, _, rfl, fun z => z, ?_⟩)
  show mm_E2 _ _ _ _ _ [.int (mx_bi x1), .ref 352] h _ _
  refine mm_jnI (fun (j59 : Int32 → Option (Int32 × mm_H)) => ∀ (y3 : Int32), mm_E2 (mm_Sq q) (mm_Sq q) mX11_reorderQuantity 14 [some (.ref 352), some (.int p0)] [.int y3, .ref 352] h (j59 y3) lf_ie) ?_ (fun j5 j5p => ?_)
  · intro y3
    refine me_iconst (pc' := 15) (v := 0) dX11_reorderQuantity_14 rfl kc_i0 ?_
    refine me_iconst (pc' := 16) (v := 0) dX11_reorderQuantity_15 rfl kc_i0 ?_
    refine me_callV (As := [.int y3, .int 0, .int 0]) (st := []) (F' := (mm_Sq q)) (G' := (mm_Sq q)) (F'' := (mm_Sq q)) (pc' := 19) dX11_reorderQuantity_16 rfl mfX11_fails rfl lkX11_143 kd_352 rfl (mm_ltm kd_352 hN) ⟨Nat.le_of_ble_eq_true rfl, Nat.le_of_ble_eq_true rfl⟩ (Nat.le_of_ble_eq_true rfl) (fun z => z) (rX11_fails (q := q) y3 0 0 h hN) (fun x6 e7 => Or.inl ⟨_, _, rfl, fun z => z, ?_⟩)
    show mm_E2 _ _ _ _ _ [.int (mx_bi x6.1)] x6.2 _ _
    refine me_ifB_eq (pc' := 22) (tgt := 24) dX11_reorderQuantity_19 (by decide) rfl (fun c8 => ?_) (fun c8 => ?_)
    · refine me_aload_n (pc' := 25) (i := 0) dX11_reorderQuantity_24 rfl rfl rfl ?_
      refine me_iload_n (pc' := 26) (i := 1) dX11_reorderQuantity_25 rfl rfl rfl ?_
      refine me_callV (As := [.int p0]) (st := []) (F' := (mm_Sq q)) (G' := (mm_Sq q)) (F'' := (mm_Sq q)) (pc' := 29) dX11_reorderQuantity_26 rfl mfX11_toOrder rfl lkX11_295 kd_352 rfl (mm_ltm kd_352 hN) ⟨Nat.le_of_ble_eq_true rfl, Nat.le_of_ble_eq_true rfl⟩ (Nat.le_of_ble_eq_true rfl) (fun z => z) (rX11_toOrder (q := q) p0 x6.2 hN) (fun x9 e10 => Or.inl ⟨_, _, rfl, fun z => z, ?_⟩)
      show mm_E2 _ _ _ _ _ [.int x9] x6.2 _ _
      exact me_iret dX11_reorderQuantity_29 rfl (fun z => z) rfl
    · refine me_iconst (pc' := 23) (v := 0) dX11_reorderQuantity_22 rfl kc_i0 ?_
      exact me_iret dX11_reorderQuantity_23 rfl (fun z => z) rfl
  refine me_ifB_ne (pc' := 9) (tgt := 13) dX11_reorderQuantity_6 (by decide) rfl (fun c11 => ?_) (fun c11 => ?_)
  · refine me_iconst (pc' := 14) (v := 0) dX11_reorderQuantity_13 rfl kc_i0 ?_
    exact j5p 0
  · refine me_iconst (pc' := 10) (v := 1) dX11_reorderQuantity_9 rfl kc_i1 ?_
    refine me_goto (tgt := 14) dX11_reorderQuantity_10 (by decide) ?_
    exact j5p 1
def gX11_reorderCount_L9 (h : mm_H) : Nat → Int32 → Int32 → Option (Int32 × mm_H)
  | 0, _, _ => none
  | n + 1, w2, w3 =>
    if mm_ibd 1 4200 = true then
    if w3 < (mh_I h 353 (Int32.toNatClampNeg (1))) then
    (gX11_toOrder w3 h).bind (fun (x6 : Int32) =>
    mm_jn (fun (y8 : Int32) (y9 : Int32) =>
    (some ((y9 + y8))).bind (fun (x11 : Int32) =>
    (some (w3 + 1)).bind (fun (x12 : Int32) =>
    gX11_reorderCount_L9 h n x11 x12))) (fun (j10 : Int32 → Int32 → Option (Int32 × mm_H)) =>
    if 0 < x6 then
    j10 1 w2
    else
    j10 0 w2))
    else
    some (w2, h) else none
def gX11_reorderCount (h : mm_H) : Option (Int32 × mm_H) :=
(some (ms_I h 352 9 0)).bind (fun (h1 : mm_H) =>
gX11_reorderCount_L9 h1 mm_F 0 0)
theorem rX11_reorderCount_L9 {q : Nat × Nat}    (h : mm_H)  (hN : 358 ≤ q.1) : ∀ (n : Nat) (w2 : Int32) (w3 : Int32), mm_E2 (mm_Sq q) (mm_Sq q) mX11_reorderCount 9 [some (.ref 352), some (.int w2), some (.int w3)] [] h (gX11_reorderCount_L9 h n w2 w3) lf_ie := by
  intro n
  induction n with
  | zero =>
    intro w2 w3
    exact mm_none
  | succ n ih =>
    intro w2 w3
    rw [gX11_reorderCount_L9]
    refine me_iload_n (pc' := 10) (i := 2) dX11_reorderCount_9 rfl rfl rfl ?_
    refine me_aload_n (pc' := 11) (i := 0) dX11_reorderCount_10 rfl rfl rfl ?_
    refine me_getR (pc' := 14) (q' := 353) dX11_reorderCount_11 rfl fkX11_13 kd_352 (mm_ltm kd_352 hN) rfl (mrX11_0 hN) ?_
    refine me_iconst (pc' := 15) (v := 1) dX11_reorderCount_14 rfl kc_i1 ?_
    refine mm_guard (fun c4 => ?_)
    refine me_iald (pc' := 16) dX11_reorderCount_15 rfl kd_353 (mm_ltm kd_353 hN) (mm_ibd_of c4) ?_
    refine me_icmp_ge (pc' := 19) (tgt := 41) dX11_reorderCount_16 (by decide) rfl (fun c5 => ?_) (fun c5 => ?_)
    · refine me_iload_n (pc' := 42) (i := 1) dX11_reorderCount_41 rfl rfl rfl ?_
      exact me_iret dX11_reorderCount_42 rfl (fun z => z) rfl
    · refine me_iload_n (pc' := 20) (i := 1) dX11_reorderCount_19 rfl rfl rfl ?_
      refine me_aload_n (pc' := 21) (i := 0) dX11_reorderCount_20 rfl rfl rfl ?_
      refine me_iload_n (pc' := 22) (i := 2) dX11_reorderCount_21 rfl rfl rfl ?_
      refine me_callV (As := [.int w3]) (st := [.int w2]) (F' := (mm_Sq q)) (G' := (mm_Sq q)) (F'' := (mm_Sq q)) (pc' := 25) dX11_reorderCount_22 rfl mfX11_toOrder rfl lkX11_295 kd_352 rfl (mm_ltm kd_352 hN) ⟨Nat.le_of_ble_eq_true rfl, Nat.le_of_ble_eq_true rfl⟩ (Nat.le_of_ble_eq_true rfl) (fun z => z) (rX11_toOrder (q := q) w3 h hN) (fun x6 e7 => Or.inl ⟨_, _, rfl, fun z => z, ?_⟩)
      show mm_E2 _ _ _ _ _ [.int x6, .int w2] h _ _
      refine mm_jnI (fun (j109 : Int32 → Int32 → Option (Int32 × mm_H)) => ∀ (y8 : Int32) (y9 : Int32), mm_E2 (mm_Sq q) (mm_Sq q) mX11_reorderCount 33 [some (.ref 352), none, some (.int w3)] [.int y8, .int y9] h (j109 y8 y9) lf_ie) ?_ (fun j10 j10p => ?_)
      · intro y8 y9
        refine me_iadd (pc' := 34) dX11_reorderCount_33 rfl ?_
        refine mm_bnd ((y9 + y8)) (fun x11 => [some (.ref 352), none, some (.int w3)]) (fun x11 => [.int x11]) (fun _ => h) (fun x11 => ?_)
        refine me_istore_n (pc' := 35) (i := 1) (L' := [some (.ref 352), some (.int x11), some (.int w3)]) dX11_reorderCount_34 rfl rfl (Nat.le_of_ble_eq_true rfl) (Nat.le_of_ble_eq_true rfl) rfl ?_
        refine me_iinc (pc' := 38) (i := 2) (x := w3) (y := w3 + 1) (L' := [some (.ref 352), some (.int x11), some (.int (w3 + 1))]) dX11_reorderCount_35 rfl (Nat.le_of_ble_eq_true rfl) (Nat.le_of_ble_eq_true rfl) rfl (kc_plus kc_i1) rfl ?_
        refine mm_bnd (w3 + 1) (fun x12 => [some (.ref 352), some (.int x11), some (.int x12)]) (fun _ => []) (fun _ => h) (fun x12 => ?_)
        refine me_goto (tgt := 9) dX11_reorderCount_38 (by decide) ?_
        exact ih x11 x12
      refine me_if_le (pc' := 28) (tgt := 32) dX11_reorderCount_25 (by decide) rfl (fun c13 => ?_) (fun c13 => ?_)
      · refine me_iconst (pc' := 33) (v := 0) dX11_reorderCount_32 rfl kc_i0 ?_
        exact mm_maskB [true, false, true] (j10p 0 w2)
      · refine me_iconst (pc' := 29) (v := 1) dX11_reorderCount_28 rfl kc_i1 ?_
        refine me_goto (tgt := 33) dX11_reorderCount_29 (by decide) ?_
        exact mm_maskB [true, false, true] (j10p 1 w2)
theorem rX11_reorderCount {q : Nat × Nat} (h : mm_H) (hN : 358 ≤ q.1) : mm_R2 (mm_Sq q) (mm_Sq q) mX11_reorderCount [.ref 352] h (gX11_reorderCount h) lf_ie := by
  refine mm_body (L := [some (.ref 352), none, none]) rfl (by decide +kernel) (Nat.le_of_ble_eq_true rfl) rfl ?_
  unfold gX11_reorderCount
  refine me_aload_n (pc' := 1) (i := 0) dX11_reorderCount_0 rfl rfl rfl ?_
  refine me_iconst (pc' := 2) (v := 0) dX11_reorderCount_1 rfl kc_i0 ?_
  refine me_putI (F' := (mm_Sq q)) (pc' := 5) dX11_reorderCount_2 rfl fkX11_1 kd_352 (mm_ltm kd_352 hN) rfl pgX11_9 (fun z => z) ?_
  refine mm_bnd (ms_I h 352 9 0) (fun _ => [some (.ref 352), none, none]) (fun _ => []) (fun h1 => h1) (fun h1 => ?_)
  refine me_iconst (pc' := 6) (v := 0) dX11_reorderCount_5 rfl kc_i0 ?_
  refine me_istore_n (pc' := 7) (i := 1) (L' := [some (.ref 352), some (.int 0), none]) dX11_reorderCount_6 rfl rfl (Nat.le_of_ble_eq_true rfl) (Nat.le_of_ble_eq_true rfl) rfl ?_
  refine me_iconst (pc' := 8) (v := 0) dX11_reorderCount_7 rfl kc_i0 ?_
  refine me_istore_n (pc' := 9) (i := 2) (L' := [some (.ref 352), some (.int 0), some (.int 0)]) dX11_reorderCount_8 rfl rfl (Nat.le_of_ble_eq_true rfl) (Nat.le_of_ble_eq_true rfl) rfl ?_
  exact rX11_reorderCount_L9 (q := q) h1 hN mm_F 0 0
def gX11_batchCount (h : mm_H) : Option (Int32 × mm_H) :=
if mm_ibd 2 4200 = true then
(gX11_plain ((mh_I h 353 (Int32.toNatClampNeg (2)))) h).bind (fun (x2 : (Int32 × mm_H)) =>
some (x2.1, x2.2)) else none
theorem rX11_batchCount {q : Nat × Nat} (h : mm_H) (hN : 358 ≤ q.1) : mm_R2 (mm_Sq q) (mm_Sq q) mX11_batchCount [.ref 352] h (gX11_batchCount h) lf_ie := by
  refine mm_body (L := [some (.ref 352)]) rfl (by decide +kernel) (Nat.le_of_ble_eq_true rfl) rfl ?_
  unfold gX11_batchCount
  refine me_aload_n (pc' := 1) (i := 0) dX11_batchCount_0 rfl rfl rfl ?_
  refine me_aload_n (pc' := 2) (i := 0) dX11_batchCount_1 rfl rfl rfl ?_
  refine me_getR (pc' := 5) (q' := 353) dX11_batchCount_2 rfl fkX11_13 kd_352 (mm_ltm kd_352 hN) rfl (mrX11_0 hN) ?_
  refine me_iconst (pc' := 6) (v := 2) dX11_batchCount_5 rfl kc_i2 ?_
  refine mm_guard (fun c1 => ?_)
  refine me_iald (pc' := 7) dX11_batchCount_6 rfl kd_353 (mm_ltm kd_353 hN) (mm_ibd_of c1) ?_
  refine me_callV (As := [.int (mh_I h 353 (Int32.toNatClampNeg (2)))]) (st := []) (F' := (mm_Sq q)) (G' := (mm_Sq q)) (F'' := (mm_Sq q)) (pc' := 10) dX11_batchCount_7 rfl mfX11_plain rfl lkX11_280 kd_352 rfl (mm_ltm kd_352 hN) ⟨Nat.le_of_ble_eq_true rfl, Nat.le_of_ble_eq_true rfl⟩ (Nat.le_of_ble_eq_true rfl) (fun z => z) (rX11_plain (q := q) ((mh_I h 353 (Int32.toNatClampNeg (2)))) h hN) (fun x2 e3 => Or.inl ⟨_, _, rfl, fun z => z, ?_⟩)
  show mm_E2 _ _ _ _ _ [.int x2.1] x2.2 _ _
  exact me_iret dX11_batchCount_10 rfl (fun z => z) rfl
def gX11_batchField (p0 : Int32) (p1 : Int32) (h : mm_H) : Option (Int32 × mm_H) :=
(gX11_isBatch p0 h).bind (fun (x1 : Bool) =>
mm_jn (fun (y3 : Int32) =>
(gX11_fails y3 0 0 h).bind (fun (x6 : (Bool × mm_H)) =>
if x6.1 = true then
some (0, x6.2)
else
(gX11_ofBatch p0 p1 x6.2).bind (fun (x9 : Int32) =>
some (x9, x6.2)))) (fun (j5 : Int32 → Option (Int32 × mm_H)) =>
if x1 = true then
j5 0
else
j5 1))
theorem rX11_batchField {q : Nat × Nat} (p0 : Int32) (p1 : Int32) (h : mm_H) (hN : 358 ≤ q.1) : mm_R2 (mm_Sq q) (mm_Sq q) mX11_batchField [.ref 352, .int p0, .int p1] h (gX11_batchField p0 p1 h) lf_ie := by
  refine mm_body (L := [some (.ref 352), some (.int p0), some (.int p1)]) rfl (by decide +kernel) (Nat.le_of_ble_eq_true rfl) rfl ?_
  unfold gX11_batchField
  refine me_aload_n (pc' := 1) (i := 0) dX11_batchField_0 rfl rfl rfl ?_
  refine me_aload_n (pc' := 2) (i := 0) dX11_batchField_1 rfl rfl rfl ?_
  refine me_iload_n (pc' := 3) (i := 1) dX11_batchField_2 rfl rfl rfl ?_
  refine me_callV (As := [.int p0]) (st := [.ref 352]) (F' := (mm_Sq q)) (G' := (mm_Sq q)) (F'' := (mm_Sq q)) (pc' := 6) dX11_batchField_3 rfl mfX11_isBatch rfl lkX11_241 kd_352 rfl (mm_ltm kd_352 hN) ⟨Nat.le_of_ble_eq_true rfl, Nat.le_of_ble_eq_true rfl⟩ (Nat.le_of_ble_eq_true rfl) (fun z => z) (rX11_isBatch (q := q) p0 h hN) (fun x1 e2 => Or.inl ⟨_, _, rfl, fun z => z, ?_⟩)
  show mm_E2 _ _ _ _ _ [.int (mx_bi x1), .ref 352] h _ _
  refine mm_jnI (fun (j59 : Int32 → Option (Int32 × mm_H)) => ∀ (y3 : Int32), mm_E2 (mm_Sq q) (mm_Sq q) mX11_batchField 14 [some (.ref 352), some (.int p0), some (.int p1)] [.int y3, .ref 352] h (j59 y3) lf_ie) ?_ (fun j5 j5p => ?_)
  · intro y3
    refine me_iconst (pc' := 15) (v := 0) dX11_batchField_14 rfl kc_i0 ?_
    refine me_iconst (pc' := 16) (v := 0) dX11_batchField_15 rfl kc_i0 ?_
    refine me_callV (As := [.int y3, .int 0, .int 0]) (st := []) (F' := (mm_Sq q)) (G' := (mm_Sq q)) (F'' := (mm_Sq q)) (pc' := 19) dX11_batchField_16 rfl mfX11_fails rfl lkX11_143 kd_352 rfl (mm_ltm kd_352 hN) ⟨Nat.le_of_ble_eq_true rfl, Nat.le_of_ble_eq_true rfl⟩ (Nat.le_of_ble_eq_true rfl) (fun z => z) (rX11_fails (q := q) y3 0 0 h hN) (fun x6 e7 => Or.inl ⟨_, _, rfl, fun z => z, ?_⟩)
    show mm_E2 _ _ _ _ _ [.int (mx_bi x6.1)] x6.2 _ _
    refine me_ifB_eq (pc' := 22) (tgt := 24) dX11_batchField_19 (by decide) rfl (fun c8 => ?_) (fun c8 => ?_)
    · refine me_aload_n (pc' := 25) (i := 0) dX11_batchField_24 rfl rfl rfl ?_
      refine me_iload_n (pc' := 26) (i := 1) dX11_batchField_25 rfl rfl rfl ?_
      refine me_iload_n (pc' := 27) (i := 2) dX11_batchField_26 rfl rfl rfl ?_
      refine me_callV (As := [.int p0, .int p1]) (st := []) (F' := (mm_Sq q)) (G' := (mm_Sq q)) (F'' := (mm_Sq q)) (pc' := 30) dX11_batchField_27 rfl mfX11_ofBatch rfl lkX11_91 kd_352 rfl (mm_ltm kd_352 hN) ⟨Nat.le_of_ble_eq_true rfl, Nat.le_of_ble_eq_true rfl⟩ (Nat.le_of_ble_eq_true rfl) (fun z => z) (rX11_ofBatch (q := q) p0 p1 x6.2 hN) (fun x9 e10 => Or.inl ⟨_, _, rfl, fun z => z, ?_⟩)
      show mm_E2 _ _ _ _ _ [.int x9] x6.2 _ _
      exact me_iret dX11_batchField_30 rfl (fun z => z) rfl
    · refine me_iconst (pc' := 23) (v := 0) dX11_batchField_22 rfl kc_i0 ?_
      exact me_iret dX11_batchField_23 rfl (fun z => z) rfl
  refine me_ifB_ne (pc' := 9) (tgt := 13) dX11_batchField_6 (by decide) rfl (fun c11 => ?_) (fun c11 => ?_)
  · refine me_iconst (pc' := 14) (v := 0) dX11_batchField_13 rfl kc_i0 ?_
    exact j5p 0
  · refine me_iconst (pc' := 10) (v := 1) dX11_batchField_9 rfl kc_i1 ?_
    refine me_goto (tgt := 14) dX11_batchField_10 (by decide) ?_
    exact j5p 1
def gX11_productOf (p0 : Int32) (h : mm_H) : Option (Int32 × mm_H) :=
(gX11_batchField p0 0 h).bind (fun (x1 : (Int32 × mm_H)) =>
some (x1.1, x1.2))
theorem rX11_productOf {q : Nat × Nat} (p0 : Int32) (h : mm_H) (hN : 358 ≤ q.1) : mm_R2 (mm_Sq q) (mm_Sq q) mX11_productOf [.ref 352, .int p0] h (gX11_productOf p0 h) lf_ie := by
  refine mm_body (L := [some (.ref 352), some (.int p0)]) rfl (by decide +kernel) (Nat.le_of_ble_eq_true rfl) rfl ?_
  unfold gX11_productOf
  refine me_aload_n (pc' := 1) (i := 0) dX11_productOf_0 rfl rfl rfl ?_
  refine me_iload_n (pc' := 2) (i := 1) dX11_productOf_1 rfl rfl rfl ?_
  refine me_iconst (pc' := 3) (v := 0) dX11_productOf_2 rfl kc_i0 ?_
  refine me_callV (As := [.int p0, .int 0]) (st := []) (F' := (mm_Sq q)) (G' := (mm_Sq q)) (F'' := (mm_Sq q)) (pc' := 6) dX11_productOf_3 rfl mfX11_batchField rfl lkX11_298 kd_352 rfl (mm_ltm kd_352 hN) ⟨Nat.le_of_ble_eq_true rfl, Nat.le_of_ble_eq_true rfl⟩ (Nat.le_of_ble_eq_true rfl) (fun z => z) (rX11_batchField (q := q) p0 0 h hN) (fun x1 e2 => Or.inl ⟨_, _, rfl, fun z => z, ?_⟩)
  show mm_E2 _ _ _ _ _ [.int x1.1] x1.2 _ _
  exact me_iret dX11_productOf_6 rfl (fun z => z) rfl
def gX11_quantity (p0 : Int32) (h : mm_H) : Option (Int32 × mm_H) :=
(gX11_batchField p0 1 h).bind (fun (x1 : (Int32 × mm_H)) =>
some (x1.1, x1.2))
theorem rX11_quantity {q : Nat × Nat} (p0 : Int32) (h : mm_H) (hN : 358 ≤ q.1) : mm_R2 (mm_Sq q) (mm_Sq q) mX11_quantity [.ref 352, .int p0] h (gX11_quantity p0 h) lf_ie := by
  refine mm_body (L := [some (.ref 352), some (.int p0)]) rfl (by decide +kernel) (Nat.le_of_ble_eq_true rfl) rfl ?_
  unfold gX11_quantity
  refine me_aload_n (pc' := 1) (i := 0) dX11_quantity_0 rfl rfl rfl ?_
  refine me_iload_n (pc' := 2) (i := 1) dX11_quantity_1 rfl rfl rfl ?_
  refine me_iconst (pc' := 3) (v := 1) dX11_quantity_2 rfl kc_i1 ?_
  refine me_callV (As := [.int p0, .int 1]) (st := []) (F' := (mm_Sq q)) (G' := (mm_Sq q)) (F'' := (mm_Sq q)) (pc' := 6) dX11_quantity_3 rfl mfX11_batchField rfl lkX11_298 kd_352 rfl (mm_ltm kd_352 hN) ⟨Nat.le_of_ble_eq_true rfl, Nat.le_of_ble_eq_true rfl⟩ (Nat.le_of_ble_eq_true rfl) (fun z => z) (rX11_batchField (q := q) p0 1 h hN) (fun x1 e2 => Or.inl ⟨_, _, rfl, fun z => z, ?_⟩)
  show mm_E2 _ _ _ _ _ [.int x1.1] x1.2 _ _
  exact me_iret dX11_quantity_6 rfl (fun z => z) rfl
def gX11_reservedOf (p0 : Int32) (h : mm_H) : Option (Int32 × mm_H) :=
(gX11_isBatch p0 h).bind (fun (x1 : Bool) =>
mm_jn (fun (y3 : Int32) =>
(gX11_fails y3 0 0 h).bind (fun (x6 : (Bool × mm_H)) =>
if x6.1 = true then
some (0, x6.2)
else
(gX11_held p0 x6.2).bind (fun (x9 : Int32) =>
some (x9, x6.2)))) (fun (j5 : Int32 → Option (Int32 × mm_H)) =>
if x1 = true then
j5 0
else
j5 1))
theorem rX11_reservedOf {q : Nat × Nat} (p0 : Int32) (h : mm_H) (hN : 358 ≤ q.1) : mm_R2 (mm_Sq q) (mm_Sq q) mX11_reservedOf [.ref 352, .int p0] h (gX11_reservedOf p0 h) lf_ie := by
  refine mm_body (L := [some (.ref 352), some (.int p0)]) rfl (by decide +kernel) (Nat.le_of_ble_eq_true rfl) rfl ?_
  unfold gX11_reservedOf
  refine me_aload_n (pc' := 1) (i := 0) dX11_reservedOf_0 rfl rfl rfl ?_
  refine me_aload_n (pc' := 2) (i := 0) dX11_reservedOf_1 rfl rfl rfl ?_
  refine me_iload_n (pc' := 3) (i := 1) dX11_reservedOf_2 rfl rfl rfl ?_
  refine me_callV (As := [.int p0]) (st := [.ref 352]) (F' := (mm_Sq q)) (G' := (mm_Sq q)) (F'' := (mm_Sq q)) (pc' := 6) dX11_reservedOf_3 rfl mfX11_isBatch rfl lkX11_241 kd_352 rfl (mm_ltm kd_352 hN) ⟨Nat.le_of_ble_eq_true rfl, Nat.le_of_ble_eq_true rfl⟩ (Nat.le_of_ble_eq_true rfl) (fun z => z) (rX11_isBatch (q := q) p0 h hN) (fun x1 e2 => Or.inl ⟨_, _, rfl, fun z => z, ?_⟩)
  show mm_E2 _ _ _ _ _ [.int (mx_bi x1), .ref 352] h _ _
  refine mm_jnI (fun (j59 : Int32 → Option (Int32 × mm_H)) => ∀ (y3 : Int32), mm_E2 (mm_Sq q) (mm_Sq q) mX11_reservedOf 14 [some (.ref 352), some (.int p0)] [.int y3, .ref 352] h (j59 y3) lf_ie) ?_ (fun j5 j5p => ?_)
  · intro y3
    refine me_iconst (pc' := 15) (v := 0) dX11_reservedOf_14 rfl kc_i0 ?_
    refine me_iconst (pc' := 16) (v := 0) dX11_reservedOf_15 rfl kc_i0 ?_
    refine me_callV (As := [.int y3, .int 0, .int 0]) (st := []) (F' := (mm_Sq q)) (G' := (mm_Sq q)) (F'' := (mm_Sq q)) (pc' := 19) dX11_reservedOf_16 rfl mfX11_fails rfl lkX11_143 kd_352 rfl (mm_ltm kd_352 hN) ⟨Nat.le_of_ble_eq_true rfl, Nat.le_of_ble_eq_true rfl⟩ (Nat.le_of_ble_eq_true rfl) (fun z => z) (rX11_fails (q := q) y3 0 0 h hN) (fun x6 e7 => Or.inl ⟨_, _, rfl, fun z => z, ?_⟩)
    show mm_E2 _ _ _ _ _ [.int (mx_bi x6.1)] x6.2 _ _
    refine me_ifB_eq (pc' := 22) (tgt := 24) dX11_reservedOf_19 (by decide) rfl (fun c8 => ?_) (fun c8 => ?_)
    · refine me_aload_n (pc' := 25) (i := 0) dX11_reservedOf_24 rfl rfl rfl ?_
      refine me_iload_n (pc' := 26) (i := 1) dX11_reservedOf_25 rfl rfl rfl ?_
      refine me_callV (As := [.int p0]) (st := []) (F' := (mm_Sq q)) (G' := (mm_Sq q)) (F'' := (mm_Sq q)) (pc' := 29) dX11_reservedOf_26 rfl mfX11_held rfl lkX11_94 kd_352 rfl (mm_ltm kd_352 hN) ⟨Nat.le_of_ble_eq_true rfl, Nat.le_of_ble_eq_true rfl⟩ (Nat.le_of_ble_eq_true rfl) (fun z => z) (rX11_held (q := q) p0 x6.2 hN) (fun x9 e10 => Or.inl ⟨_, _, rfl, fun z => z, ?_⟩)
      show mm_E2 _ _ _ _ _ [.int x9] x6.2 _ _
      exact me_iret dX11_reservedOf_29 rfl (fun z => z) rfl
    · refine me_iconst (pc' := 23) (v := 0) dX11_reservedOf_22 rfl kc_i0 ?_
      exact me_iret dX11_reservedOf_23 rfl (fun z => z) rfl
  refine me_ifB_ne (pc' := 9) (tgt := 13) dX11_reservedOf_6 (by decide) rfl (fun c11 => ?_) (fun c11 => ?_)
  · refine me_iconst (pc' := 14) (v := 0) dX11_reservedOf_13 rfl kc_i0 ?_
    exact j5p 0
  · refine me_iconst (pc' := 10) (v := 1) dX11_reservedOf_9 rfl kc_i1 ?_
    refine me_goto (tgt := 14) dX11_reservedOf_10 (by decide) ?_
    exact j5p 1
def gX11_expiryDay (p0 : Int32) (h : mm_H) : Option (Int32 × mm_H) :=
(gX11_batchField p0 2 h).bind (fun (x1 : (Int32 × mm_H)) =>
some (x1.1, x1.2))
theorem rX11_expiryDay {q : Nat × Nat} (p0 : Int32) (h : mm_H) (hN : 358 ≤ q.1) : mm_R2 (mm_Sq q) (mm_Sq q) mX11_expiryDay [.ref 352, .int p0] h (gX11_expiryDay p0 h) lf_ie := by
  refine mm_body (L := [some (.ref 352), some (.int p0)]) rfl (by decide +kernel) (Nat.le_of_ble_eq_true rfl) rfl ?_
  unfold gX11_expiryDay
  refine me_aload_n (pc' := 1) (i := 0) dX11_expiryDay_0 rfl rfl rfl ?_
  refine me_iload_n (pc' := 2) (i := 1) dX11_expiryDay_1 rfl rfl rfl ?_
  refine me_iconst (pc' := 3) (v := 2) dX11_expiryDay_2 rfl kc_i2 ?_
  refine me_callV (As := [.int p0, .int 2]) (st := []) (F' := (mm_Sq q)) (G' := (mm_Sq q)) (F'' := (mm_Sq q)) (pc' := 6) dX11_expiryDay_3 rfl mfX11_batchField rfl lkX11_298 kd_352 rfl (mm_ltm kd_352 hN) ⟨Nat.le_of_ble_eq_true rfl, Nat.le_of_ble_eq_true rfl⟩ (Nat.le_of_ble_eq_true rfl) (fun z => z) (rX11_batchField (q := q) p0 2 h hN) (fun x1 e2 => Or.inl ⟨_, _, rfl, fun z => z, ?_⟩)
  show mm_E2 _ _ _ _ _ [.int x1.1] x1.2 _ _
  exact me_iret dX11_expiryDay_6 rfl (fun z => z) rfl
def gX11_unitCost (p0 : Int32) (h : mm_H) : Option (Int32 × mm_H) :=
(gX11_batchField p0 3 h).bind (fun (x1 : (Int32 × mm_H)) =>
some (x1.1, x1.2))
theorem rX11_unitCost {q : Nat × Nat} (p0 : Int32) (h : mm_H) (hN : 358 ≤ q.1) : mm_R2 (mm_Sq q) (mm_Sq q) mX11_unitCost [.ref 352, .int p0] h (gX11_unitCost p0 h) lf_ie := by
  refine mm_body (L := [some (.ref 352), some (.int p0)]) rfl (by decide +kernel) (Nat.le_of_ble_eq_true rfl) rfl ?_
  unfold gX11_unitCost
  refine me_aload_n (pc' := 1) (i := 0) dX11_unitCost_0 rfl rfl rfl ?_
  refine me_iload_n (pc' := 2) (i := 1) dX11_unitCost_1 rfl rfl rfl ?_
  refine me_iconst (pc' := 3) (v := 3) dX11_unitCost_2 rfl kc_i3 ?_
  refine me_callV (As := [.int p0, .int 3]) (st := []) (F' := (mm_Sq q)) (G' := (mm_Sq q)) (F'' := (mm_Sq q)) (pc' := 6) dX11_unitCost_3 rfl mfX11_batchField rfl lkX11_298 kd_352 rfl (mm_ltm kd_352 hN) ⟨Nat.le_of_ble_eq_true rfl, Nat.le_of_ble_eq_true rfl⟩ (Nat.le_of_ble_eq_true rfl) (fun z => z) (rX11_batchField (q := q) p0 3 h hN) (fun x1 e2 => Or.inl ⟨_, _, rfl, fun z => z, ?_⟩)
  show mm_E2 _ _ _ _ _ [.int x1.1] x1.2 _ _
  exact me_iret dX11_unitCost_6 rfl (fun z => z) rfl
def gX11_isExpired (p0 : Int32) (h : mm_H) : Option (Bool × mm_H) :=
(gX11_isBatch p0 h).bind (fun (x1 : Bool) =>
mm_jn (fun (y3 : Int32) =>
(gX11_fails y3 0 0 h).bind (fun (x6 : (Bool × mm_H)) =>
if x6.1 = true then
some (false, x6.2)
else
(gX11_isPast p0 x6.2).bind (fun (x9 : Bool) =>
some (x9, x6.2)))) (fun (j5 : Int32 → Option (Bool × mm_H)) =>
if x1 = true then
j5 0
else
j5 1))
theorem rX11_isExpired {q : Nat × Nat} (p0 : Int32) (h : mm_H) (hN : 358 ≤ q.1) : mm_R2 (mm_Sq q) (mm_Sq q) mX11_isExpired [.ref 352, .int p0] h (gX11_isExpired p0 h) lf_ze := by
  refine mm_body (L := [some (.ref 352), some (.int p0)]) rfl (by decide +kernel) (Nat.le_of_ble_eq_true rfl) rfl ?_
  unfold gX11_isExpired
  refine me_aload_n (pc' := 1) (i := 0) dX11_isExpired_0 rfl rfl rfl ?_
  refine me_aload_n (pc' := 2) (i := 0) dX11_isExpired_1 rfl rfl rfl ?_
  refine me_iload_n (pc' := 3) (i := 1) dX11_isExpired_2 rfl rfl rfl ?_
  refine me_callV (As := [.int p0]) (st := [.ref 352]) (F' := (mm_Sq q)) (G' := (mm_Sq q)) (F'' := (mm_Sq q)) (pc' := 6) dX11_isExpired_3 rfl mfX11_isBatch rfl lkX11_241 kd_352 rfl (mm_ltm kd_352 hN) ⟨Nat.le_of_ble_eq_true rfl, Nat.le_of_ble_eq_true rfl⟩ (Nat.le_of_ble_eq_true rfl) (fun z => z) (rX11_isBatch (q := q) p0 h hN) (fun x1 e2 => Or.inl ⟨_, _, rfl, fun z => z, ?_⟩)
  show mm_E2 _ _ _ _ _ [.int (mx_bi x1), .ref 352] h _ _
  refine mm_jnI (fun (j59 : Int32 → Option (Bool × mm_H)) => ∀ (y3 : Int32), mm_E2 (mm_Sq q) (mm_Sq q) mX11_isExpired 14 [some (.ref 352), some (.int p0)] [.int y3, .ref 352] h (j59 y3) lf_ze) ?_ (fun j5 j5p => ?_)
  · intro y3
    refine me_iconst (pc' := 15) (v := 0) dX11_isExpired_14 rfl kc_i0 ?_
    refine me_iconst (pc' := 16) (v := 0) dX11_isExpired_15 rfl kc_i0 ?_
    refine me_callV (As := [.int y3, .int 0, .int 0]) (st := []) (F' := (mm_Sq q)) (G' := (mm_Sq q)) (F'' := (mm_Sq q)) (pc' := 19) dX11_isExpired_16 rfl mfX11_fails rfl lkX11_143 kd_352 rfl (mm_ltm kd_352 hN) ⟨Nat.le_of_ble_eq_true rfl, Nat.le_of_ble_eq_true rfl⟩ (Nat.le_of_ble_eq_true rfl) (fun z => z) (rX11_fails (q := q) y3 0 0 h hN) (fun x6 e7 => Or.inl ⟨_, _, rfl, fun z => z, ?_⟩)
    show mm_E2 _ _ _ _ _ [.int (mx_bi x6.1)] x6.2 _ _
    refine me_ifB_eq (pc' := 22) (tgt := 24) dX11_isExpired_19 (by decide) rfl (fun c8 => ?_) (fun c8 => ?_)
    · refine me_aload_n (pc' := 25) (i := 0) dX11_isExpired_24 rfl rfl rfl ?_
      refine me_iload_n (pc' := 26) (i := 1) dX11_isExpired_25 rfl rfl rfl ?_
      refine me_callV (As := [.int p0]) (st := []) (F' := (mm_Sq q)) (G' := (mm_Sq q)) (F'' := (mm_Sq q)) (pc' := 29) dX11_isExpired_26 rfl mfX11_isPast rfl lkX11_124 kd_352 rfl (mm_ltm kd_352 hN) ⟨Nat.le_of_ble_eq_true rfl, Nat.le_of_ble_eq_true rfl⟩ (Nat.le_of_ble_eq_true rfl) (fun z => z) (rX11_isPast (q := q) p0 x6.2 hN) (fun x9 e10 => Or.inl ⟨_, _, rfl, fun z => z, ?_⟩)
      show mm_E2 _ _ _ _ _ [.int (mx_bi x9)] x6.2 _ _
      exact me_zret (b := x9) dX11_isExpired_29 rfl (fun z => z) rfl
    · refine me_iconst (pc' := 23) (v := 0) dX11_isExpired_22 rfl kc_i0 ?_
      exact me_zret (b := false) dX11_isExpired_23 rfl (fun z => z) rfl
  refine me_ifB_ne (pc' := 9) (tgt := 13) dX11_isExpired_6 (by decide) rfl (fun c11 => ?_) (fun c11 => ?_)
  · refine me_iconst (pc' := 14) (v := 0) dX11_isExpired_13 rfl kc_i0 ?_
    exact j5p 0
  · refine me_iconst (pc' := 10) (v := 1) dX11_isExpired_9 rfl kc_i1 ?_
    refine me_goto (tgt := 14) dX11_isExpired_10 (by decide) ?_
    exact j5p 1
def gX11_placeOf_L5 (u1 : Int32) (u2 : Int32) (h : mm_H) : Nat → Int32 → Int32 → Option Int32
  | 0, _, _ => none
  | n + 1, w3, w4 =>
    if mm_ibd 2 4200 = true then
    if w4 < (mh_I h 353 (Int32.toNatClampNeg (2))) then
    (gX11_ofBatch u1 2 h).bind (fun (x7 : Int32) =>
    (gX11_ofBatch w4 2 h).bind (fun (x9 : Int32) =>
    (some ((x7 - x9))).bind (fun (x11 : Int32) =>
    if mm_ibd 0 4200 = true then
    (gX11_canTake w4 u2 ((mh_I h 353 (Int32.toNatClampNeg (0)))) h).bind (fun (x13 : Bool) =>
    mm_jn (fun (y15 : Int32) (y16 : Int32) =>
    (some ((y16 + y15))).bind (fun (x18 : Int32) =>
    (some (w4 + 1)).bind (fun (x19 : Int32) =>
    gX11_placeOf_L5 u1 u2 h n x18 x19))) (fun (j17 : Int32 → Int32 → Option Int32) =>
    mm_jn (fun (y20 : Int32) =>
    j17 0 y20) (fun (j21 : Int32 → Option Int32) =>
    if x13 = true then
    mm_jn (fun (y23 : Int32) =>
    j17 1 y23) (fun (j24 : Int32 → Option Int32) =>
    if 0 < x11 then
    j24 w3
    else
    if x11 = 0 then
    if w4 < u1 then
    j24 w3
    else
    j21 w3
    else
    j21 w3)
    else
    j21 w3))) else none)))
    else
    some w3 else none
def gX11_placeOf (p0 : Int32) (p1 : Int32) (h : mm_H) : Option Int32 :=
gX11_placeOf_L5 p0 p1 h mm_F 0 0
theorem rX11_placeOf_L5 {q : Nat × Nat}  (u1 : Int32) (u2 : Int32)  (h : mm_H)  (hN : 358 ≤ q.1) : ∀ (n : Nat) (w3 : Int32) (w4 : Int32), mm_E2 (mm_Sq q) (mm_Sq q) mX11_placeOf 5 [some (.ref 352), some (.int u1), some (.int u2), some (.int w3), some (.int w4), none] [] h (gX11_placeOf_L5 u1 u2 h n w3 w4) (lf_i h) := by
  intro n
  induction n with
  | zero =>
    intro w3 w4
    exact mm_none
  | succ n ih =>
    intro w3 w4
    rw [gX11_placeOf_L5]
    refine me_iload (pc' := 7) (i := 4) dX11_placeOf_5 rfl rfl ?_
    refine me_aload_n (pc' := 8) (i := 0) dX11_placeOf_7 rfl rfl rfl ?_
    refine me_getR (pc' := 11) (q' := 353) dX11_placeOf_8 rfl fkX11_13 kd_352 (mm_ltm kd_352 hN) rfl (mrX11_0 hN) ?_
    refine me_iconst (pc' := 12) (v := 2) dX11_placeOf_11 rfl kc_i2 ?_
    refine mm_guard (fun c5 => ?_)
    refine me_iald (pc' := 13) dX11_placeOf_12 rfl kd_353 (mm_ltm kd_353 hN) (mm_ibd_of c5) ?_
    refine me_icmp_ge (pc' := 16) (tgt := 78) dX11_placeOf_13 (by decide) rfl (fun c6 => ?_) (fun c6 => ?_)
    · refine me_iload_n (pc' := 79) (i := 3) dX11_placeOf_78 rfl rfl rfl ?_
      exact me_iret dX11_placeOf_79 rfl (fun z => z) rfl
    · refine me_aload_n (pc' := 17) (i := 0) dX11_placeOf_16 rfl rfl rfl ?_
      refine me_iload_n (pc' := 18) (i := 1) dX11_placeOf_17 rfl rfl rfl ?_
      refine me_iconst (pc' := 19) (v := 2) dX11_placeOf_18 rfl kc_i2 ?_
      refine me_callV (As := [.int u1, .int 2]) (st := []) (F' := (mm_Sq q)) (G' := (mm_Sq q)) (F'' := (mm_Sq q)) (pc' := 22) dX11_placeOf_19 rfl mfX11_ofBatch rfl lkX11_91 kd_352 rfl (mm_ltm kd_352 hN) ⟨Nat.le_of_ble_eq_true rfl, Nat.le_of_ble_eq_true rfl⟩ (Nat.le_of_ble_eq_true rfl) (fun z => z) (rX11_ofBatch (q := q) u1 2 h hN) (fun x7 e8 => Or.inl ⟨_, _, rfl, fun z => z, ?_⟩)
      show mm_E2 _ _ _ _ _ [.int x7] h _ _
      refine me_aload_n (pc' := 23) (i := 0) dX11_placeOf_22 rfl rfl rfl ?_
      refine me_iload (pc' := 25) (i := 4) dX11_placeOf_23 rfl rfl ?_
      refine me_iconst (pc' := 26) (v := 2) dX11_placeOf_25 rfl kc_i2 ?_
      refine me_callV (As := [.int w4, .int 2]) (st := [.int x7]) (F' := (mm_Sq q)) (G' := (mm_Sq q)) (F'' := (mm_Sq q)) (pc' := 29) dX11_placeOf_26 rfl mfX11_ofBatch rfl lkX11_91 kd_352 rfl (mm_ltm kd_352 hN) ⟨Nat.le_of_ble_eq_true rfl, Nat.le_of_ble_eq_true rfl⟩ (Nat.le_of_ble_eq_true rfl) (fun z => z) (rX11_ofBatch (q := q) w4 2 h hN) (fun x9 e10 => Or.inl ⟨_, _, rfl, fun z => z, ?_⟩)
      show mm_E2 _ _ _ _ _ [.int x9, .int x7] h _ _
      refine me_isub (pc' := 30) dX11_placeOf_29 rfl ?_
      refine mm_bnd ((x7 - x9)) (fun x11 => [some (.ref 352), some (.int u1), some (.int u2), some (.int w3), some (.int w4), none]) (fun x11 => [.int x11]) (fun _ => h) (fun x11 => ?_)
      refine me_istore (pc' := 32) (i := 5) (L' := [some (.ref 352), some (.int u1), some (.int u2), some (.int w3), some (.int w4), some (.int x11)]) dX11_placeOf_30 rfl (Nat.le_of_ble_eq_true rfl) (Nat.le_of_ble_eq_true rfl) rfl ?_
      refine me_iload_n (pc' := 33) (i := 3) dX11_placeOf_32 rfl rfl rfl ?_
      refine me_aload_n (pc' := 34) (i := 0) dX11_placeOf_33 rfl rfl rfl ?_
      refine me_iload (pc' := 36) (i := 4) dX11_placeOf_34 rfl rfl ?_
      refine me_iload_n (pc' := 37) (i := 2) dX11_placeOf_36 rfl rfl rfl ?_
      refine me_aload_n (pc' := 38) (i := 0) dX11_placeOf_37 rfl rfl rfl ?_
      refine me_getR (pc' := 41) (q' := 353) dX11_placeOf_38 rfl fkX11_13 kd_352 (mm_ltm kd_352 hN) rfl (mrX11_0 hN) ?_
      refine me_iconst (pc' := 42) (v := 0) dX11_placeOf_41 rfl kc_i0 ?_
      refine mm_guard (fun c12 => ?_)
      refine me_iald (pc' := 43) dX11_placeOf_42 rfl kd_353 (mm_ltm kd_353 hN) (mm_ibd_of c12) ?_
      refine me_callV (As := [.int w4, .int u2, .int (mh_I h 353 (Int32.toNatClampNeg (0)))]) (st := [.int w3]) (F' := (mm_Sq q)) (G' := (mm_Sq q)) (F'' := (mm_Sq q)) (pc' := 46) dX11_placeOf_43 rfl mfX11_canTake rfl lkX11_105 kd_352 rfl (mm_ltm kd_352 hN) ⟨Nat.le_of_ble_eq_true rfl, Nat.le_of_ble_eq_true rfl⟩ (Nat.le_of_ble_eq_true rfl) (fun z => z) (rX11_canTake (q := q) w4 u2 ((mh_I h 353 (Int32.toNatClampNeg (0)))) h hN) (fun x13 e14 => Or.inl ⟨_, _, rfl, fun z => z, ?_⟩)
      show mm_E2 _ _ _ _ _ [.int (mx_bi x13), .int w3] h _ _
      refine mm_jnI (fun (j179 : Int32 → Int32 → Option Int32) => ∀ (y15 : Int32) (y16 : Int32), mm_E2 (mm_Sq q) (mm_Sq q) mX11_placeOf 70 [some (.ref 352), some (.int u1), some (.int u2), none, some (.int w4), none] [.int y15, .int y16] h (j179 y15 y16) (lf_i h)) ?_ (fun j17 j17p => ?_)
      · intro y15 y16
        refine me_iadd (pc' := 71) dX11_placeOf_70 rfl ?_
        refine mm_bnd ((y16 + y15)) (fun x18 => [some (.ref 352), some (.int u1), some (.int u2), none, some (.int w4), none]) (fun x18 => [.int x18]) (fun _ => h) (fun x18 => ?_)
        refine me_istore_n (pc' := 72) (i := 3) (L' := [some (.ref 352), some (.int u1), some (.int u2), some (.int x18), some (.int w4), none]) dX11_placeOf_71 rfl rfl (Nat.le_of_ble_eq_true rfl) (Nat.le_of_ble_eq_true rfl) rfl ?_
        refine me_iinc (pc' := 75) (i := 4) (x := w4) (y := w4 + 1) (L' := [some (.ref 352), some (.int u1), some (.int u2), some (.int x18), some (.int (w4 + 1)), none]) dX11_placeOf_72 rfl (Nat.le_of_ble_eq_true rfl) (Nat.le_of_ble_eq_true rfl) rfl (kc_plus kc_i1) rfl ?_
        refine mm_bnd (w4 + 1) (fun x19 => [some (.ref 352), some (.int u1), some (.int u2), some (.int x18), some (.int x19), none]) (fun _ => []) (fun _ => h) (fun x19 => ?_)
        refine me_goto (tgt := 5) dX11_placeOf_75 (by decide) ?_
        exact ih x18 x19
      refine mm_jnI (fun (j219 : Int32 → Option Int32) => ∀ (y20 : Int32), mm_E2 (mm_Sq q) (mm_Sq q) mX11_placeOf 69 [some (.ref 352), some (.int u1), some (.int u2), none, some (.int w4), none] [.int y20] h (j219 y20) (lf_i h)) ?_ (fun j21 j21p => ?_)
      · intro y20
        refine me_iconst (pc' := 70) (v := 0) dX11_placeOf_69 rfl kc_i0 ?_
        exact j17p 0 y20
      refine me_ifB_eq (pc' := 49) (tgt := 69) dX11_placeOf_46 (by decide) rfl (fun c22 => ?_) (fun c22 => ?_)
      · exact mm_maskB [true, true, true, false, true, false] (j21p w3)
      · refine me_iload (pc' := 51) (i := 5) dX11_placeOf_49 rfl rfl ?_
        refine mm_jnI (fun (j249 : Int32 → Option Int32) => ∀ (y23 : Int32), mm_E2 (mm_Sq q) (mm_Sq q) mX11_placeOf 65 [some (.ref 352), some (.int u1), some (.int u2), none, some (.int w4), none] [.int y23] h (j249 y23) (lf_i h)) ?_ (fun j24 j24p => ?_)
        · intro y23
          refine me_iconst (pc' := 66) (v := 1) dX11_placeOf_65 rfl kc_i1 ?_
          refine me_goto (tgt := 70) dX11_placeOf_66 (by decide) ?_
          exact j17p 1 y23
        refine me_if_gt (pc' := 54) (tgt := 65) dX11_placeOf_51 (by decide) rfl (fun c25 => ?_) (fun c25 => ?_)
        · exact mm_maskB [true, true, true, false, true, false] (j24p w3)
        · refine me_iload (pc' := 56) (i := 5) dX11_placeOf_54 rfl rfl ?_
          refine me_if_ne (pc' := 59) (tgt := 69) dX11_placeOf_56 (by decide) rfl (fun c26 => ?_) (fun c26 => ?_)
          · exact mm_maskB [true, true, true, false, true, false] (j21p w3)
          · refine me_iload (pc' := 61) (i := 4) dX11_placeOf_59 rfl rfl ?_
            refine me_iload_n (pc' := 62) (i := 1) dX11_placeOf_61 rfl rfl rfl ?_
            refine me_icmp_ge (pc' := 65) (tgt := 69) dX11_placeOf_62 (by decide) rfl (fun c27 => ?_) (fun c27 => ?_)
            · exact mm_maskB [true, true, true, false, true, false] (j21p w3)
            · exact mm_maskB [true, true, true, false, true, false] (j24p w3)
theorem rX11_placeOf {q : Nat × Nat} (p0 : Int32) (p1 : Int32) (h : mm_H) (hN : 358 ≤ q.1) : mm_R2 (mm_Sq q) (mm_Sq q) mX11_placeOf [.ref 352, .int p0, .int p1] h (gX11_placeOf p0 p1 h) (lf_i h) := by
  refine mm_body (L := [some (.ref 352), some (.int p0), some (.int p1), none, none, none]) rfl (by decide +kernel) (Nat.le_of_ble_eq_true rfl) rfl ?_
  unfold gX11_placeOf
  refine me_iconst (pc' := 1) (v := 0) dX11_placeOf_0 rfl kc_i0 ?_
  refine me_istore_n (pc' := 2) (i := 3) (L' := [some (.ref 352), some (.int p0), some (.int p1), some (.int 0), none, none]) dX11_placeOf_1 rfl rfl (Nat.le_of_ble_eq_true rfl) (Nat.le_of_ble_eq_true rfl) rfl ?_
  refine me_iconst (pc' := 3) (v := 0) dX11_placeOf_2 rfl kc_i0 ?_
  refine me_istore (pc' := 5) (i := 4) (L' := [some (.ref 352), some (.int p0), some (.int p1), some (.int 0), some (.int 0), none]) dX11_placeOf_3 rfl (Nat.le_of_ble_eq_true rfl) (Nat.le_of_ble_eq_true rfl) rfl ?_
  exact rX11_placeOf_L5 (q := q) p0 p1 h hN mm_F 0 0
def gX11_issueOrder_L26 (u9 : Int32) (u10 : Int32) (h : mm_H) : Nat → Int32 → Option (Int32 × mm_H)
  | 0, _ => none
  | n + 1, w11 =>
    if mm_ibd 2 4200 = true then
    if w11 < (mh_I h 353 (Int32.toNatClampNeg (2))) then
    if mm_ibd 0 4200 = true then
    (gX11_canTake w11 u9 ((mh_I h 353 (Int32.toNatClampNeg (0)))) h).bind (fun (x15 : Bool) =>
    mm_jn (fun (_ : Unit) =>
    (some (w11 + 1)).bind (fun (x18 : Int32) =>
    gX11_issueOrder_L26 u9 u10 h n x18)) (fun (j17 : Unit → Option (Int32 × mm_H)) =>
    if x15 = true then
    (gX11_placeOf w11 u9 h).bind (fun (x20 : Int32) =>
    if x20 = u10 then
    some (w11, h)
    else
    j17 ())
    else
    j17 ())) else none
    else
    some ((-1), h) else none
def gX11_issueOrder (p0 : Int32) (p1 : Int32) (h : mm_H) : Option (Int32 × mm_H) :=
(gX11_isProduct p0 h).bind (fun (x1 : Bool) =>
mm_jn (fun (y3 : Int32) =>
(gX11_fails y3 0 0 h).bind (fun (x6 : (Bool × mm_H)) =>
if x6.1 = true then
some (0, x6.2)
else
gX11_issueOrder_L26 p0 p1 x6.2 mm_F 0)) (fun (j5 : Int32 → Option (Int32 × mm_H)) =>
if x1 = true then
j5 0
else
j5 1))
theorem rX11_issueOrder_L26 {q : Nat × Nat}  (u9 : Int32) (u10 : Int32)  (h : mm_H)  (hN : 358 ≤ q.1) : ∀ (n : Nat) (w11 : Int32), mm_E2 (mm_Sq q) (mm_Sq q) mX11_issueOrder 26 [some (.ref 352), some (.int u9), some (.int u10), some (.int w11)] [] h (gX11_issueOrder_L26 u9 u10 h n w11) lf_ie := by
  intro n
  induction n with
  | zero =>
    intro w11
    exact mm_none
  | succ n ih =>
    intro w11
    rw [gX11_issueOrder_L26]
    refine me_iload_n (pc' := 27) (i := 3) dX11_issueOrder_26 rfl rfl rfl ?_
    refine me_aload_n (pc' := 28) (i := 0) dX11_issueOrder_27 rfl rfl rfl ?_
    refine me_getR (pc' := 31) (q' := 353) dX11_issueOrder_28 rfl fkX11_13 kd_352 (mm_ltm kd_352 hN) rfl (mrX11_0 hN) ?_
    refine me_iconst (pc' := 32) (v := 2) dX11_issueOrder_31 rfl kc_i2 ?_
    refine mm_guard (fun c12 => ?_)
    refine me_iald (pc' := 33) dX11_issueOrder_32 rfl kd_353 (mm_ltm kd_353 hN) (mm_ibd_of c12) ?_
    refine me_icmp_ge (pc' := 36) (tgt := 69) dX11_issueOrder_33 (by decide) rfl (fun c13 => ?_) (fun c13 => ?_)
    · refine me_iconst (pc' := 70) (v := (-1)) dX11_issueOrder_69 rfl kc_im1 ?_
      exact me_iret dX11_issueOrder_70 rfl (fun z => z) rfl
    · refine me_aload_n (pc' := 37) (i := 0) dX11_issueOrder_36 rfl rfl rfl ?_
      refine me_iload_n (pc' := 38) (i := 3) dX11_issueOrder_37 rfl rfl rfl ?_
      refine me_iload_n (pc' := 39) (i := 1) dX11_issueOrder_38 rfl rfl rfl ?_
      refine me_aload_n (pc' := 40) (i := 0) dX11_issueOrder_39 rfl rfl rfl ?_
      refine me_getR (pc' := 43) (q' := 353) dX11_issueOrder_40 rfl fkX11_13 kd_352 (mm_ltm kd_352 hN) rfl (mrX11_0 hN) ?_
      refine me_iconst (pc' := 44) (v := 0) dX11_issueOrder_43 rfl kc_i0 ?_
      refine mm_guard (fun c14 => ?_)
      refine me_iald (pc' := 45) dX11_issueOrder_44 rfl kd_353 (mm_ltm kd_353 hN) (mm_ibd_of c14) ?_
      refine me_callV (As := [.int w11, .int u9, .int (mh_I h 353 (Int32.toNatClampNeg (0)))]) (st := []) (F' := (mm_Sq q)) (G' := (mm_Sq q)) (F'' := (mm_Sq q)) (pc' := 48) dX11_issueOrder_45 rfl mfX11_canTake rfl lkX11_105 kd_352 rfl (mm_ltm kd_352 hN) ⟨Nat.le_of_ble_eq_true rfl, Nat.le_of_ble_eq_true rfl⟩ (Nat.le_of_ble_eq_true rfl) (fun z => z) (rX11_canTake (q := q) w11 u9 ((mh_I h 353 (Int32.toNatClampNeg (0)))) h hN) (fun x15 e16 => Or.inl ⟨_, _, rfl, fun z => z, ?_⟩)
      show mm_E2 _ _ _ _ _ [.int (mx_bi x15)] h _ _
      refine mm_jnI (fun (j179 : Unit → Option (Int32 × mm_H)) => ∀ (_ : Unit), mm_E2 (mm_Sq q) (mm_Sq q) mX11_issueOrder 63 [some (.ref 352), some (.int u9), some (.int u10), some (.int w11)] [] h (j179 ()) lf_ie) ?_ (fun j17 j17p => ?_)
      · intro _
        refine me_iinc (pc' := 66) (i := 3) (x := w11) (y := w11 + 1) (L' := [some (.ref 352), some (.int u9), some (.int u10), some (.int (w11 + 1))]) dX11_issueOrder_63 rfl (Nat.le_of_ble_eq_true rfl) (Nat.le_of_ble_eq_true rfl) rfl (kc_plus kc_i1) rfl ?_
        refine mm_bnd (w11 + 1) (fun x18 => [some (.ref 352), some (.int u9), some (.int u10), some (.int x18)]) (fun _ => []) (fun _ => h) (fun x18 => ?_)
        refine me_goto (tgt := 26) dX11_issueOrder_66 (by decide) ?_
        exact ih x18
      refine me_ifB_eq (pc' := 51) (tgt := 63) dX11_issueOrder_48 (by decide) rfl (fun c19 => ?_) (fun c19 => ?_)
      · exact j17p ()
      · refine me_aload_n (pc' := 52) (i := 0) dX11_issueOrder_51 rfl rfl rfl ?_
        refine me_iload_n (pc' := 53) (i := 3) dX11_issueOrder_52 rfl rfl rfl ?_
        refine me_iload_n (pc' := 54) (i := 1) dX11_issueOrder_53 rfl rfl rfl ?_
        refine me_callV (As := [.int w11, .int u9]) (st := []) (F' := (mm_Sq q)) (G' := (mm_Sq q)) (F'' := (mm_Sq q)) (pc' := 57) dX11_issueOrder_54 rfl mfX11_placeOf rfl lkX11_301 kd_352 rfl (mm_ltm kd_352 hN) ⟨Nat.le_of_ble_eq_true rfl, Nat.le_of_ble_eq_true rfl⟩ (Nat.le_of_ble_eq_true rfl) (fun z => z) (rX11_placeOf (q := q) w11 u9 h hN) (fun x20 e21 => Or.inl ⟨_, _, rfl, fun z => z, ?_⟩)
        show mm_E2 _ _ _ _ _ [.int x20] h _ _
        refine me_iload_n (pc' := 58) (i := 2) dX11_issueOrder_57 rfl rfl rfl ?_
        refine me_icmp_ne (pc' := 61) (tgt := 63) dX11_issueOrder_58 (by decide) rfl (fun c22 => ?_) (fun c22 => ?_)
        · exact j17p ()
        · refine me_iload_n (pc' := 62) (i := 3) dX11_issueOrder_61 rfl rfl rfl ?_
          exact me_iret dX11_issueOrder_62 rfl (fun z => z) rfl
theorem rX11_issueOrder {q : Nat × Nat} (p0 : Int32) (p1 : Int32) (h : mm_H) (hN : 358 ≤ q.1) : mm_R2 (mm_Sq q) (mm_Sq q) mX11_issueOrder [.ref 352, .int p0, .int p1] h (gX11_issueOrder p0 p1 h) lf_ie := by
  refine mm_body (L := [some (.ref 352), some (.int p0), some (.int p1), none]) rfl (by decide +kernel) (Nat.le_of_ble_eq_true rfl) rfl ?_
  unfold gX11_issueOrder
  refine me_aload_n (pc' := 1) (i := 0) dX11_issueOrder_0 rfl rfl rfl ?_
  refine me_aload_n (pc' := 2) (i := 0) dX11_issueOrder_1 rfl rfl rfl ?_
  refine me_iload_n (pc' := 3) (i := 1) dX11_issueOrder_2 rfl rfl rfl ?_
  refine me_callV (As := [.int p0]) (st := [.ref 352]) (F' := (mm_Sq q)) (G' := (mm_Sq q)) (F'' := (mm_Sq q)) (pc' := 6) dX11_issueOrder_3 rfl mfX11_isProduct rfl lkX11_283 kd_352 rfl (mm_ltm kd_352 hN) ⟨Nat.le_of_ble_eq_true rfl, Nat.le_of_ble_eq_true rfl⟩ (Nat.le_of_ble_eq_true rfl) (fun z => z) (rX11_isProduct (q := q) p0 h hN) (fun x1 e2 => Or.inl ⟨_, _, rfl, fun z => z, ?_⟩)
  show mm_E2 _ _ _ _ _ [.int (mx_bi x1), .ref 352] h _ _
  refine mm_jnI (fun (j59 : Int32 → Option (Int32 × mm_H)) => ∀ (y3 : Int32), mm_E2 (mm_Sq q) (mm_Sq q) mX11_issueOrder 14 [some (.ref 352), some (.int p0), some (.int p1), none] [.int y3, .ref 352] h (j59 y3) lf_ie) ?_ (fun j5 j5p => ?_)
  · intro y3
    refine me_iconst (pc' := 15) (v := 0) dX11_issueOrder_14 rfl kc_i0 ?_
    refine me_iconst (pc' := 16) (v := 0) dX11_issueOrder_15 rfl kc_i0 ?_
    refine me_callV (As := [.int y3, .int 0, .int 0]) (st := []) (F' := (mm_Sq q)) (G' := (mm_Sq q)) (F'' := (mm_Sq q)) (pc' := 19) dX11_issueOrder_16 rfl mfX11_fails rfl lkX11_143 kd_352 rfl (mm_ltm kd_352 hN) ⟨Nat.le_of_ble_eq_true rfl, Nat.le_of_ble_eq_true rfl⟩ (Nat.le_of_ble_eq_true rfl) (fun z => z) (rX11_fails (q := q) y3 0 0 h hN) (fun x6 e7 => Or.inl ⟨_, _, rfl, fun z => z, ?_⟩)
    show mm_E2 _ _ _ _ _ [.int (mx_bi x6.1)] x6.2 _ _
    refine me_ifB_eq (pc' := 22) (tgt := 24) dX11_issueOrder_19 (by decide) rfl (fun c8 => ?_) (fun c8 => ?_)
    · refine me_iconst (pc' := 25) (v := 0) dX11_issueOrder_24 rfl kc_i0 ?_
      refine me_istore_n (pc' := 26) (i := 3) (L' := [some (.ref 352), some (.int p0), some (.int p1), some (.int 0)]) dX11_issueOrder_25 rfl rfl (Nat.le_of_ble_eq_true rfl) (Nat.le_of_ble_eq_true rfl) rfl ?_
      exact rX11_issueOrder_L26 (q := q) p0 p1 x6.2 hN mm_F 0
    · refine me_iconst (pc' := 23) (v := 0) dX11_issueOrder_22 rfl kc_i0 ?_
      exact me_iret dX11_issueOrder_23 rfl (fun z => z) rfl
  refine me_ifB_ne (pc' := 9) (tgt := 13) dX11_issueOrder_6 (by decide) rfl (fun c23 => ?_) (fun c23 => ?_)
  · refine me_iconst (pc' := 14) (v := 0) dX11_issueOrder_13 rfl kc_i0 ?_
    exact j5p 0
  · refine me_iconst (pc' := 10) (v := 1) dX11_issueOrder_9 rfl kc_i1 ?_
    refine me_goto (tgt := 14) dX11_issueOrder_10 (by decide) ?_
    exact j5p 1
def gX11_costOfIssue (p0 : Int32) (p1 : Int32) (h : mm_H) : Option (Int32 × mm_H) :=
(gX11_isProduct p0 h).bind (fun (x1 : Bool) =>
mm_jn (fun (y3 : Int32) =>
(gX11_in p1 1 9999 h).bind (fun (x6 : Bool) =>
mm_jn (fun (y8 : Int32) (y9 : Int32) =>
(gX11_fails y9 y8 0 h).bind (fun (x12 : (Bool × mm_H)) =>
if x12.1 = true then
some (0, x12.2)
else
(gX11_canIssue p0 p1 x12.2).bind (fun (x15 : Bool) =>
if x15 = true then
(gX11_copyBlock 0 9 x12.2).bind (fun (h18 : mm_H) =>
if mm_ibd 0 4200 = true then
(gX11_takeOut p0 p1 ((mh_I h18 353 (Int32.toNatClampNeg (0)))) h18).bind (fun (x21 : (Int32 × mm_H)) =>
(gX11_copyBlock 9 0 x21.2).bind (fun (h23 : mm_H) =>
some (x21.1, h23))) else none)
else
some ((-1), x12.2)))) (fun (j11 : Int32 → Int32 → Option (Int32 × mm_H)) =>
if x6 = true then
j11 0 y3
else
j11 1 y3))) (fun (j5 : Int32 → Option (Int32 × mm_H)) =>
if x1 = true then
j5 0
else
j5 1))
theorem rX11_costOfIssue {q : Nat × Nat} (p0 : Int32) (p1 : Int32) (h : mm_H) (hN : 358 ≤ q.1) : mm_R2 (mm_Sq q) (mm_Sq q) mX11_costOfIssue [.ref 352, .int p0, .int p1] h (gX11_costOfIssue p0 p1 h) lf_ie := by
  refine mm_body (L := [some (.ref 352), some (.int p0), some (.int p1), none]) rfl (by decide +kernel) (Nat.le_of_ble_eq_true rfl) rfl ?_
  unfold gX11_costOfIssue
  refine me_aload_n (pc' := 1) (i := 0) dX11_costOfIssue_0 rfl rfl rfl ?_
  refine me_aload_n (pc' := 2) (i := 0) dX11_costOfIssue_1 rfl rfl rfl ?_
  refine me_iload_n (pc' := 3) (i := 1) dX11_costOfIssue_2 rfl rfl rfl ?_
  refine me_callV (As := [.int p0]) (st := [.ref 352]) (F' := (mm_Sq q)) (G' := (mm_Sq q)) (F'' := (mm_Sq q)) (pc' := 6) dX11_costOfIssue_3 rfl mfX11_isProduct rfl lkX11_283 kd_352 rfl (mm_ltm kd_352 hN) ⟨Nat.le_of_ble_eq_true rfl, Nat.le_of_ble_eq_true rfl⟩ (Nat.le_of_ble_eq_true rfl) (fun z => z) (rX11_isProduct (q := q) p0 h hN) (fun x1 e2 => Or.inl ⟨_, _, rfl, fun z => z, ?_⟩)
  show mm_E2 _ _ _ _ _ [.int (mx_bi x1), .ref 352] h _ _
  refine mm_jnI (fun (j59 : Int32 → Option (Int32 × mm_H)) => ∀ (y3 : Int32), mm_E2 (mm_Sq q) (mm_Sq q) mX11_costOfIssue 14 [some (.ref 352), some (.int p0), some (.int p1), none] [.int y3, .ref 352] h (j59 y3) lf_ie) ?_ (fun j5 j5p => ?_)
  · intro y3
    refine me_iload_n (pc' := 15) (i := 2) dX11_costOfIssue_14 rfl rfl rfl ?_
    refine me_iconst (pc' := 16) (v := 1) dX11_costOfIssue_15 rfl kc_i1 ?_
    refine me_sipush (pc' := 19) (v := 9999) dX11_costOfIssue_16 rfl kc_s9999 ?_
    refine me_callS (As := [.int p1, .int 1, .int 9999]) (st := [.int y3, .ref 352]) (F' := (mm_Sq q)) (G' := (mm_Sq q)) (F'' := (mm_Sq q)) (pc' := 22) dX11_costOfIssue_19 rfl mfX11_in rfl lkX11_75 ⟨Nat.le_of_ble_eq_true rfl, Nat.le_of_ble_eq_true rfl⟩ (Nat.le_of_ble_eq_true rfl) (fun z => z) (rX11_in (q := q) p1 1 9999 h hN) (fun x6 e7 => Or.inl ⟨_, _, rfl, fun z => z, ?_⟩)
    show mm_E2 _ _ _ _ _ [.int (mx_bi x6), .int y3, .ref 352] h _ _
    refine mm_jnI (fun (j119 : Int32 → Int32 → Option (Int32 × mm_H)) => ∀ (y8 : Int32) (y9 : Int32), mm_E2 (mm_Sq q) (mm_Sq q) mX11_costOfIssue 30 [some (.ref 352), some (.int p0), some (.int p1), none] [.int y8, .int y9, .ref 352] h (j119 y8 y9) lf_ie) ?_ (fun j11 j11p => ?_)
    · intro y8 y9
      refine me_iconst (pc' := 31) (v := 0) dX11_costOfIssue_30 rfl kc_i0 ?_
      refine me_callV (As := [.int y9, .int y8, .int 0]) (st := []) (F' := (mm_Sq q)) (G' := (mm_Sq q)) (F'' := (mm_Sq q)) (pc' := 34) dX11_costOfIssue_31 rfl mfX11_fails rfl lkX11_143 kd_352 rfl (mm_ltm kd_352 hN) ⟨Nat.le_of_ble_eq_true rfl, Nat.le_of_ble_eq_true rfl⟩ (Nat.le_of_ble_eq_true rfl) (fun z => z) (rX11_fails (q := q) y9 y8 0 h hN) (fun x12 e13 => Or.inl ⟨_, _, rfl, fun z => z, ?_⟩)
      show mm_E2 _ _ _ _ _ [.int (mx_bi x12.1)] x12.2 _ _
      refine me_ifB_eq (pc' := 37) (tgt := 39) dX11_costOfIssue_34 (by decide) rfl (fun c14 => ?_) (fun c14 => ?_)
      · refine me_aload_n (pc' := 40) (i := 0) dX11_costOfIssue_39 rfl rfl rfl ?_
        refine me_iload_n (pc' := 41) (i := 1) dX11_costOfIssue_40 rfl rfl rfl ?_
        refine me_iload_n (pc' := 42) (i := 2) dX11_costOfIssue_41 rfl rfl rfl ?_
        refine me_callV (As := [.int p0, .int p1]) (st := []) (F' := (mm_Sq q)) (G' := (mm_Sq q)) (F'' := (mm_Sq q)) (pc' := 45) dX11_costOfIssue_42 rfl mfX11_canIssue rfl lkX11_229 kd_352 rfl (mm_ltm kd_352 hN) ⟨Nat.le_of_ble_eq_true rfl, Nat.le_of_ble_eq_true rfl⟩ (Nat.le_of_ble_eq_true rfl) (fun z => z) (rX11_canIssue (q := q) p0 p1 x12.2 hN) (fun x15 e16 => Or.inl ⟨_, _, rfl, fun z => z, ?_⟩)
        show mm_E2 _ _ _ _ _ [.int (mx_bi x15)] x12.2 _ _
        refine me_ifB_ne (pc' := 48) (tgt := 50) dX11_costOfIssue_45 (by decide) rfl (fun c17 => ?_) (fun c17 => ?_)
        · refine me_aload_n (pc' := 51) (i := 0) dX11_costOfIssue_50 rfl rfl rfl ?_
          refine me_iconst (pc' := 52) (v := 0) dX11_costOfIssue_51 rfl kc_i0 ?_
          refine me_bipush (pc' := 54) (v := 9) dX11_costOfIssue_52 rfl kc_b9 ?_
          refine me_callV (As := [.int 0, .int 9]) (st := []) (F' := (mm_Sq q)) (G' := (mm_Sq q)) (F'' := (mm_Sq q)) (pc' := 57) dX11_costOfIssue_54 rfl mfX11_copyBlock rfl lkX11_79 kd_352 rfl (mm_ltm kd_352 hN) ⟨Nat.le_of_ble_eq_true rfl, Nat.le_of_ble_eq_true rfl⟩ (Nat.le_of_ble_eq_true rfl) (fun z => z) (rX11_copyBlock (q := q) 0 9 x12.2 hN) (fun h18 e19 => Or.inl ⟨_, _, rfl, fun z => z, ?_⟩)
          show mm_E2 _ _ _ _ _ [] h18 _ _
          refine me_aload_n (pc' := 58) (i := 0) dX11_costOfIssue_57 rfl rfl rfl ?_
          refine me_iload_n (pc' := 59) (i := 1) dX11_costOfIssue_58 rfl rfl rfl ?_
          refine me_iload_n (pc' := 60) (i := 2) dX11_costOfIssue_59 rfl rfl rfl ?_
          refine me_aload_n (pc' := 61) (i := 0) dX11_costOfIssue_60 rfl rfl rfl ?_
          refine me_getR (pc' := 64) (q' := 353) dX11_costOfIssue_61 rfl fkX11_13 kd_352 (mm_ltm kd_352 hN) rfl (mrX11_0 hN) ?_
          refine me_iconst (pc' := 65) (v := 0) dX11_costOfIssue_64 rfl kc_i0 ?_
          refine mm_guard (fun c20 => ?_)
          refine me_iald (pc' := 66) dX11_costOfIssue_65 rfl kd_353 (mm_ltm kd_353 hN) (mm_ibd_of c20) ?_
          refine me_callV (As := [.int p0, .int p1, .int (mh_I h18 353 (Int32.toNatClampNeg (0)))]) (st := []) (F' := (mm_Sq q)) (G' := (mm_Sq q)) (F'' := (mm_Sq q)) (pc' := 69) dX11_costOfIssue_66 rfl mfX11_takeOut rfl lkX11_244 kd_352 rfl (mm_ltm kd_352 hN) ⟨Nat.le_of_ble_eq_true rfl, Nat.le_of_ble_eq_true rfl⟩ (Nat.le_of_ble_eq_true rfl) (fun z => z) (rX11_takeOut (q := q) p0 p1 ((mh_I h18 353 (Int32.toNatClampNeg (0)))) h18 hN) (fun x21 e22 => Or.inl ⟨_, _, rfl, fun z => z, ?_⟩)
          show mm_E2 _ _ _ _ _ [.int x21.1] x21.2 _ _
          refine me_istore_n (pc' := 70) (i := 3) (L' := [some (.ref 352), some (.int p0), some (.int p1), some (.int x21.1)]) dX11_costOfIssue_69 rfl rfl (Nat.le_of_ble_eq_true rfl) (Nat.le_of_ble_eq_true rfl) rfl ?_
          refine me_aload_n (pc' := 71) (i := 0) dX11_costOfIssue_70 rfl rfl rfl ?_
          refine me_bipush (pc' := 73) (v := 9) dX11_costOfIssue_71 rfl kc_b9 ?_
          refine me_iconst (pc' := 74) (v := 0) dX11_costOfIssue_73 rfl kc_i0 ?_
          refine me_callV (As := [.int 9, .int 0]) (st := []) (F' := (mm_Sq q)) (G' := (mm_Sq q)) (F'' := (mm_Sq q)) (pc' := 77) dX11_costOfIssue_74 rfl mfX11_copyBlock rfl lkX11_79 kd_352 rfl (mm_ltm kd_352 hN) ⟨Nat.le_of_ble_eq_true rfl, Nat.le_of_ble_eq_true rfl⟩ (Nat.le_of_ble_eq_true rfl) (fun z => z) (rX11_copyBlock (q := q) 9 0 x21.2 hN) (fun h23 e24 => Or.inl ⟨_, _, rfl, fun z => z, ?_⟩)
          show mm_E2 _ _ _ _ _ [] h23 _ _
          refine me_iload_n (pc' := 78) (i := 3) dX11_costOfIssue_77 rfl rfl rfl ?_
          exact me_iret dX11_costOfIssue_78 rfl (fun z => z) rfl
        · refine me_iconst (pc' := 49) (v := (-1)) dX11_costOfIssue_48 rfl kc_im1 ?_
          exact me_iret dX11_costOfIssue_49 rfl (fun z => z) rfl
      · refine me_iconst (pc' := 38) (v := 0) dX11_costOfIssue_37 rfl kc_i0 ?_
        exact me_iret dX11_costOfIssue_38 rfl (fun z => z) rfl
    refine me_ifB_ne (pc' := 25) (tgt := 29) dX11_costOfIssue_22 (by decide) rfl (fun c25 => ?_) (fun c25 => ?_)
    · refine me_iconst (pc' := 30) (v := 0) dX11_costOfIssue_29 rfl kc_i0 ?_
      exact j11p 0 y3
    · refine me_iconst (pc' := 26) (v := 1) dX11_costOfIssue_25 rfl kc_i1 ?_
      refine me_goto (tgt := 30) dX11_costOfIssue_26 (by decide) ?_
      exact j11p 1 y3
  refine me_ifB_ne (pc' := 9) (tgt := 13) dX11_costOfIssue_6 (by decide) rfl (fun c26 => ?_) (fun c26 => ?_)
  · refine me_iconst (pc' := 14) (v := 0) dX11_costOfIssue_13 rfl kc_i0 ?_
    exact j5p 0
  · refine me_iconst (pc' := 10) (v := 1) dX11_costOfIssue_9 rfl kc_i1 ?_
    refine me_goto (tgt := 14) dX11_costOfIssue_10 (by decide) ?_
    exact j5p 1
def gX11_reservationCount (h : mm_H) : Option (Int32 × mm_H) :=
if mm_ibd 3 4200 = true then
(gX11_plain ((mh_I h 353 (Int32.toNatClampNeg (3)))) h).bind (fun (x2 : (Int32 × mm_H)) =>
some (x2.1, x2.2)) else none
theorem rX11_reservationCount {q : Nat × Nat} (h : mm_H) (hN : 358 ≤ q.1) : mm_R2 (mm_Sq q) (mm_Sq q) mX11_reservationCount [.ref 352] h (gX11_reservationCount h) lf_ie := by
  refine mm_body (L := [some (.ref 352)]) rfl (by decide +kernel) (Nat.le_of_ble_eq_true rfl) rfl ?_
  unfold gX11_reservationCount
  refine me_aload_n (pc' := 1) (i := 0) dX11_reservationCount_0 rfl rfl rfl ?_
  refine me_aload_n (pc' := 2) (i := 0) dX11_reservationCount_1 rfl rfl rfl ?_
  refine me_getR (pc' := 5) (q' := 353) dX11_reservationCount_2 rfl fkX11_13 kd_352 (mm_ltm kd_352 hN) rfl (mrX11_0 hN) ?_
  refine me_iconst (pc' := 6) (v := 3) dX11_reservationCount_5 rfl kc_i3 ?_
  refine mm_guard (fun c1 => ?_)
  refine me_iald (pc' := 7) dX11_reservationCount_6 rfl kd_353 (mm_ltm kd_353 hN) (mm_ibd_of c1) ?_
  refine me_callV (As := [.int (mh_I h 353 (Int32.toNatClampNeg (3)))]) (st := []) (F' := (mm_Sq q)) (G' := (mm_Sq q)) (F'' := (mm_Sq q)) (pc' := 10) dX11_reservationCount_7 rfl mfX11_plain rfl lkX11_280 kd_352 rfl (mm_ltm kd_352 hN) ⟨Nat.le_of_ble_eq_true rfl, Nat.le_of_ble_eq_true rfl⟩ (Nat.le_of_ble_eq_true rfl) (fun z => z) (rX11_plain (q := q) ((mh_I h 353 (Int32.toNatClampNeg (3)))) h hN) (fun x2 e3 => Or.inl ⟨_, _, rfl, fun z => z, ?_⟩)
  show mm_E2 _ _ _ _ _ [.int x2.1] x2.2 _ _
  exact me_iret dX11_reservationCount_10 rfl (fun z => z) rfl
def gX11_reservationField (p0 : Int32) (p1 : Int32) (h : mm_H) : Option (Int32 × mm_H) :=
(gX11_isReservation p0 h).bind (fun (x1 : Bool) =>
mm_jn (fun (y3 : Int32) =>
(gX11_fails y3 0 0 h).bind (fun (x6 : (Bool × mm_H)) =>
if x6.1 = true then
some (0, x6.2)
else
(gX11_ofReservation p0 p1 x6.2).bind (fun (x9 : Int32) =>
some (x9, x6.2)))) (fun (j5 : Int32 → Option (Int32 × mm_H)) =>
if x1 = true then
j5 0
else
j5 1))
theorem rX11_reservationField {q : Nat × Nat} (p0 : Int32) (p1 : Int32) (h : mm_H) (hN : 358 ≤ q.1) : mm_R2 (mm_Sq q) (mm_Sq q) mX11_reservationField [.ref 352, .int p0, .int p1] h (gX11_reservationField p0 p1 h) lf_ie := by
  refine mm_body (L := [some (.ref 352), some (.int p0), some (.int p1)]) rfl (by decide +kernel) (Nat.le_of_ble_eq_true rfl) rfl ?_
  unfold gX11_reservationField
  refine me_aload_n (pc' := 1) (i := 0) dX11_reservationField_0 rfl rfl rfl ?_
  refine me_aload_n (pc' := 2) (i := 0) dX11_reservationField_1 rfl rfl rfl ?_
  refine me_iload_n (pc' := 3) (i := 1) dX11_reservationField_2 rfl rfl rfl ?_
  refine me_callV (As := [.int p0]) (st := [.ref 352]) (F' := (mm_Sq q)) (G' := (mm_Sq q)) (F'' := (mm_Sq q)) (pc' := 6) dX11_reservationField_3 rfl mfX11_isReservation rfl lkX11_235 kd_352 rfl (mm_ltm kd_352 hN) ⟨Nat.le_of_ble_eq_true rfl, Nat.le_of_ble_eq_true rfl⟩ (Nat.le_of_ble_eq_true rfl) (fun z => z) (rX11_isReservation (q := q) p0 h hN) (fun x1 e2 => Or.inl ⟨_, _, rfl, fun z => z, ?_⟩)
  show mm_E2 _ _ _ _ _ [.int (mx_bi x1), .ref 352] h _ _
  refine mm_jnI (fun (j59 : Int32 → Option (Int32 × mm_H)) => ∀ (y3 : Int32), mm_E2 (mm_Sq q) (mm_Sq q) mX11_reservationField 14 [some (.ref 352), some (.int p0), some (.int p1)] [.int y3, .ref 352] h (j59 y3) lf_ie) ?_ (fun j5 j5p => ?_)
  · intro y3
    refine me_iconst (pc' := 15) (v := 0) dX11_reservationField_14 rfl kc_i0 ?_
    refine me_iconst (pc' := 16) (v := 0) dX11_reservationField_15 rfl kc_i0 ?_
    refine me_callV (As := [.int y3, .int 0, .int 0]) (st := []) (F' := (mm_Sq q)) (G' := (mm_Sq q)) (F'' := (mm_Sq q)) (pc' := 19) dX11_reservationField_16 rfl mfX11_fails rfl lkX11_143 kd_352 rfl (mm_ltm kd_352 hN) ⟨Nat.le_of_ble_eq_true rfl, Nat.le_of_ble_eq_true rfl⟩ (Nat.le_of_ble_eq_true rfl) (fun z => z) (rX11_fails (q := q) y3 0 0 h hN) (fun x6 e7 => Or.inl ⟨_, _, rfl, fun z => z, ?_⟩)
    show mm_E2 _ _ _ _ _ [.int (mx_bi x6.1)] x6.2 _ _
    refine me_ifB_eq (pc' := 22) (tgt := 24) dX11_reservationField_19 (by decide) rfl (fun c8 => ?_) (fun c8 => ?_)
    · refine me_aload_n (pc' := 25) (i := 0) dX11_reservationField_24 rfl rfl rfl ?_
      refine me_iload_n (pc' := 26) (i := 1) dX11_reservationField_25 rfl rfl rfl ?_
      refine me_iload_n (pc' := 27) (i := 2) dX11_reservationField_26 rfl rfl rfl ?_
      refine me_callV (As := [.int p0, .int p1]) (st := []) (F' := (mm_Sq q)) (G' := (mm_Sq q)) (F'' := (mm_Sq q)) (pc' := 30) dX11_reservationField_27 rfl mfX11_ofReservation rfl lkX11_83 kd_352 rfl (mm_ltm kd_352 hN) ⟨Nat.le_of_ble_eq_true rfl, Nat.le_of_ble_eq_true rfl⟩ (Nat.le_of_ble_eq_true rfl) (fun z => z) (rX11_ofReservation (q := q) p0 p1 x6.2 hN) (fun x9 e10 => Or.inl ⟨_, _, rfl, fun z => z, ?_⟩)
      show mm_E2 _ _ _ _ _ [.int x9] x6.2 _ _
      exact me_iret dX11_reservationField_30 rfl (fun z => z) rfl
    · refine me_iconst (pc' := 23) (v := 0) dX11_reservationField_22 rfl kc_i0 ?_
      exact me_iret dX11_reservationField_23 rfl (fun z => z) rfl
  refine me_ifB_ne (pc' := 9) (tgt := 13) dX11_reservationField_6 (by decide) rfl (fun c11 => ?_) (fun c11 => ?_)
  · refine me_iconst (pc' := 14) (v := 0) dX11_reservationField_13 rfl kc_i0 ?_
    exact j5p 0
  · refine me_iconst (pc' := 10) (v := 1) dX11_reservationField_9 rfl kc_i1 ?_
    refine me_goto (tgt := 14) dX11_reservationField_10 (by decide) ?_
    exact j5p 1
def gX11_reservedProduct (p0 : Int32) (h : mm_H) : Option (Int32 × mm_H) :=
(gX11_reservationField p0 0 h).bind (fun (x1 : (Int32 × mm_H)) =>
some (x1.1, x1.2))
theorem rX11_reservedProduct {q : Nat × Nat} (p0 : Int32) (h : mm_H) (hN : 358 ≤ q.1) : mm_R2 (mm_Sq q) (mm_Sq q) mX11_reservedProduct [.ref 352, .int p0] h (gX11_reservedProduct p0 h) lf_ie := by
  refine mm_body (L := [some (.ref 352), some (.int p0)]) rfl (by decide +kernel) (Nat.le_of_ble_eq_true rfl) rfl ?_
  unfold gX11_reservedProduct
  refine me_aload_n (pc' := 1) (i := 0) dX11_reservedProduct_0 rfl rfl rfl ?_
  refine me_iload_n (pc' := 2) (i := 1) dX11_reservedProduct_1 rfl rfl rfl ?_
  refine me_iconst (pc' := 3) (v := 0) dX11_reservedProduct_2 rfl kc_i0 ?_
  refine me_callV (As := [.int p0, .int 0]) (st := []) (F' := (mm_Sq q)) (G' := (mm_Sq q)) (F'' := (mm_Sq q)) (pc' := 6) dX11_reservedProduct_3 rfl mfX11_reservationField rfl lkX11_304 kd_352 rfl (mm_ltm kd_352 hN) ⟨Nat.le_of_ble_eq_true rfl, Nat.le_of_ble_eq_true rfl⟩ (Nat.le_of_ble_eq_true rfl) (fun z => z) (rX11_reservationField (q := q) p0 0 h hN) (fun x1 e2 => Or.inl ⟨_, _, rfl, fun z => z, ?_⟩)
  show mm_E2 _ _ _ _ _ [.int x1.1] x1.2 _ _
  exact me_iret dX11_reservedProduct_6 rfl (fun z => z) rfl
def gX11_reservedQuantity (p0 : Int32) (h : mm_H) : Option (Int32 × mm_H) :=
(gX11_reservationField p0 1 h).bind (fun (x1 : (Int32 × mm_H)) =>
some (x1.1, x1.2))
theorem rX11_reservedQuantity {q : Nat × Nat} (p0 : Int32) (h : mm_H) (hN : 358 ≤ q.1) : mm_R2 (mm_Sq q) (mm_Sq q) mX11_reservedQuantity [.ref 352, .int p0] h (gX11_reservedQuantity p0 h) lf_ie := by
  refine mm_body (L := [some (.ref 352), some (.int p0)]) rfl (by decide +kernel) (Nat.le_of_ble_eq_true rfl) rfl ?_
  unfold gX11_reservedQuantity
  refine me_aload_n (pc' := 1) (i := 0) dX11_reservedQuantity_0 rfl rfl rfl ?_
  refine me_iload_n (pc' := 2) (i := 1) dX11_reservedQuantity_1 rfl rfl rfl ?_
  refine me_iconst (pc' := 3) (v := 1) dX11_reservedQuantity_2 rfl kc_i1 ?_
  refine me_callV (As := [.int p0, .int 1]) (st := []) (F' := (mm_Sq q)) (G' := (mm_Sq q)) (F'' := (mm_Sq q)) (pc' := 6) dX11_reservedQuantity_3 rfl mfX11_reservationField rfl lkX11_304 kd_352 rfl (mm_ltm kd_352 hN) ⟨Nat.le_of_ble_eq_true rfl, Nat.le_of_ble_eq_true rfl⟩ (Nat.le_of_ble_eq_true rfl) (fun z => z) (rX11_reservationField (q := q) p0 1 h hN) (fun x1 e2 => Or.inl ⟨_, _, rfl, fun z => z, ?_⟩)
  show mm_E2 _ _ _ _ _ [.int x1.1] x1.2 _ _
  exact me_iret dX11_reservedQuantity_6 rfl (fun z => z) rfl
def gX11_isOpen (p0 : Int32) (h : mm_H) : Option (Bool × mm_H) :=
(gX11_isReservation p0 h).bind (fun (x1 : Bool) =>
mm_jn (fun (y3 : Int32) =>
(gX11_fails y3 0 0 h).bind (fun (x6 : (Bool × mm_H)) =>
if x6.1 = true then
some (false, x6.2)
else
(gX11_isOpenOne p0 x6.2).bind (fun (x9 : Bool) =>
some (x9, x6.2)))) (fun (j5 : Int32 → Option (Bool × mm_H)) =>
if x1 = true then
j5 0
else
j5 1))
theorem rX11_isOpen {q : Nat × Nat} (p0 : Int32) (h : mm_H) (hN : 358 ≤ q.1) : mm_R2 (mm_Sq q) (mm_Sq q) mX11_isOpen [.ref 352, .int p0] h (gX11_isOpen p0 h) lf_ze := by
  refine mm_body (L := [some (.ref 352), some (.int p0)]) rfl (by decide +kernel) (Nat.le_of_ble_eq_true rfl) rfl ?_
  unfold gX11_isOpen
  refine me_aload_n (pc' := 1) (i := 0) dX11_isOpen_0 rfl rfl rfl ?_
  refine me_aload_n (pc' := 2) (i := 0) dX11_isOpen_1 rfl rfl rfl ?_
  refine me_iload_n (pc' := 3) (i := 1) dX11_isOpen_2 rfl rfl rfl ?_
  refine me_callV (As := [.int p0]) (st := [.ref 352]) (F' := (mm_Sq q)) (G' := (mm_Sq q)) (F'' := (mm_Sq q)) (pc' := 6) dX11_isOpen_3 rfl mfX11_isReservation rfl lkX11_235 kd_352 rfl (mm_ltm kd_352 hN) ⟨Nat.le_of_ble_eq_true rfl, Nat.le_of_ble_eq_true rfl⟩ (Nat.le_of_ble_eq_true rfl) (fun z => z) (rX11_isReservation (q := q) p0 h hN) (fun x1 e2 => Or.inl ⟨_, _, rfl, fun z => z, ?_⟩)
  show mm_E2 _ _ _ _ _ [.int (mx_bi x1), .ref 352] h _ _
  refine mm_jnI (fun (j59 : Int32 → Option (Bool × mm_H)) => ∀ (y3 : Int32), mm_E2 (mm_Sq q) (mm_Sq q) mX11_isOpen 14 [some (.ref 352), some (.int p0)] [.int y3, .ref 352] h (j59 y3) lf_ze) ?_ (fun j5 j5p => ?_)
  · intro y3
    refine me_iconst (pc' := 15) (v := 0) dX11_isOpen_14 rfl kc_i0 ?_
    refine me_iconst (pc' := 16) (v := 0) dX11_isOpen_15 rfl kc_i0 ?_
    refine me_callV (As := [.int y3, .int 0, .int 0]) (st := []) (F' := (mm_Sq q)) (G' := (mm_Sq q)) (F'' := (mm_Sq q)) (pc' := 19) dX11_isOpen_16 rfl mfX11_fails rfl lkX11_143 kd_352 rfl (mm_ltm kd_352 hN) ⟨Nat.le_of_ble_eq_true rfl, Nat.le_of_ble_eq_true rfl⟩ (Nat.le_of_ble_eq_true rfl) (fun z => z) (rX11_fails (q := q) y3 0 0 h hN) (fun x6 e7 => Or.inl ⟨_, _, rfl, fun z => z, ?_⟩)
    show mm_E2 _ _ _ _ _ [.int (mx_bi x6.1)] x6.2 _ _
    refine me_ifB_eq (pc' := 22) (tgt := 24) dX11_isOpen_19 (by decide) rfl (fun c8 => ?_) (fun c8 => ?_)
    · refine me_aload_n (pc' := 25) (i := 0) dX11_isOpen_24 rfl rfl rfl ?_
      refine me_iload_n (pc' := 26) (i := 1) dX11_isOpen_25 rfl rfl rfl ?_
      refine me_callV (As := [.int p0]) (st := []) (F' := (mm_Sq q)) (G' := (mm_Sq q)) (F'' := (mm_Sq q)) (pc' := 29) dX11_isOpen_26 rfl mfX11_isOpenOne rfl lkX11_87 kd_352 rfl (mm_ltm kd_352 hN) ⟨Nat.le_of_ble_eq_true rfl, Nat.le_of_ble_eq_true rfl⟩ (Nat.le_of_ble_eq_true rfl) (fun z => z) (rX11_isOpenOne (q := q) p0 x6.2 hN) (fun x9 e10 => Or.inl ⟨_, _, rfl, fun z => z, ?_⟩)
      show mm_E2 _ _ _ _ _ [.int (mx_bi x9)] x6.2 _ _
      exact me_zret (b := x9) dX11_isOpen_29 rfl (fun z => z) rfl
    · refine me_iconst (pc' := 23) (v := 0) dX11_isOpen_22 rfl kc_i0 ?_
      exact me_zret (b := false) dX11_isOpen_23 rfl (fun z => z) rfl
  refine me_ifB_ne (pc' := 9) (tgt := 13) dX11_isOpen_6 (by decide) rfl (fun c11 => ?_) (fun c11 => ?_)
  · refine me_iconst (pc' := 14) (v := 0) dX11_isOpen_13 rfl kc_i0 ?_
    exact j5p 0
  · refine me_iconst (pc' := 10) (v := 1) dX11_isOpen_9 rfl kc_i1 ?_
    refine me_goto (tgt := 14) dX11_isOpen_10 (by decide) ?_
    exact j5p 1
def gX11_missing (p0 : Int32) (h : mm_H) : Option (Int32 × mm_H) :=
(gX11_isReservation p0 h).bind (fun (x1 : Bool) =>
mm_jn (fun (y3 : Int32) =>
(gX11_fails y3 0 0 h).bind (fun (x6 : (Bool × mm_H)) =>
if x6.1 = true then
some (0, x6.2)
else
(gX11_lacking p0 x6.2).bind (fun (x9 : Int32) =>
some (x9, x6.2)))) (fun (j5 : Int32 → Option (Int32 × mm_H)) =>
if x1 = true then
j5 0
else
j5 1))
theorem rX11_missing {q : Nat × Nat} (p0 : Int32) (h : mm_H) (hN : 358 ≤ q.1) : mm_R2 (mm_Sq q) (mm_Sq q) mX11_missing [.ref 352, .int p0] h (gX11_missing p0 h) lf_ie := by
  refine mm_body (L := [some (.ref 352), some (.int p0)]) rfl (by decide +kernel) (Nat.le_of_ble_eq_true rfl) rfl ?_
  unfold gX11_missing
  refine me_aload_n (pc' := 1) (i := 0) dX11_missing_0 rfl rfl rfl ?_
  refine me_aload_n (pc' := 2) (i := 0) dX11_missing_1 rfl rfl rfl ?_
  refine me_iload_n (pc' := 3) (i := 1) dX11_missing_2 rfl rfl rfl ?_
  refine me_callV (As := [.int p0]) (st := [.ref 352]) (F' := (mm_Sq q)) (G' := (mm_Sq q)) (F'' := (mm_Sq q)) (pc' := 6) dX11_missing_3 rfl mfX11_isReservation rfl lkX11_235 kd_352 rfl (mm_ltm kd_352 hN) ⟨Nat.le_of_ble_eq_true rfl, Nat.le_of_ble_eq_true rfl⟩ (Nat.le_of_ble_eq_true rfl) (fun z => z) (rX11_isReservation (q := q) p0 h hN) (fun x1 e2 => Or.inl ⟨_, _, rfl, fun z => z, ?_⟩)
  show mm_E2 _ _ _ _ _ [.int (mx_bi x1), .ref 352] h _ _
  refine mm_jnI (fun (j59 : Int32 → Option (Int32 × mm_H)) => ∀ (y3 : Int32), mm_E2 (mm_Sq q) (mm_Sq q) mX11_missing 14 [some (.ref 352), some (.int p0)] [.int y3, .ref 352] h (j59 y3) lf_ie) ?_ (fun j5 j5p => ?_)
  · intro y3
    refine me_iconst (pc' := 15) (v := 0) dX11_missing_14 rfl kc_i0 ?_
    refine me_iconst (pc' := 16) (v := 0) dX11_missing_15 rfl kc_i0 ?_
    refine me_callV (As := [.int y3, .int 0, .int 0]) (st := []) (F' := (mm_Sq q)) (G' := (mm_Sq q)) (F'' := (mm_Sq q)) (pc' := 19) dX11_missing_16 rfl mfX11_fails rfl lkX11_143 kd_352 rfl (mm_ltm kd_352 hN) ⟨Nat.le_of_ble_eq_true rfl, Nat.le_of_ble_eq_true rfl⟩ (Nat.le_of_ble_eq_true rfl) (fun z => z) (rX11_fails (q := q) y3 0 0 h hN) (fun x6 e7 => Or.inl ⟨_, _, rfl, fun z => z, ?_⟩)
    show mm_E2 _ _ _ _ _ [.int (mx_bi x6.1)] x6.2 _ _
    refine me_ifB_eq (pc' := 22) (tgt := 24) dX11_missing_19 (by decide) rfl (fun c8 => ?_) (fun c8 => ?_)
    · refine me_aload_n (pc' := 25) (i := 0) dX11_missing_24 rfl rfl rfl ?_
      refine me_iload_n (pc' := 26) (i := 1) dX11_missing_25 rfl rfl rfl ?_
      refine me_callV (As := [.int p0]) (st := []) (F' := (mm_Sq q)) (G' := (mm_Sq q)) (F'' := (mm_Sq q)) (pc' := 29) dX11_missing_26 rfl mfX11_lacking rfl lkX11_133 kd_352 rfl (mm_ltm kd_352 hN) ⟨Nat.le_of_ble_eq_true rfl, Nat.le_of_ble_eq_true rfl⟩ (Nat.le_of_ble_eq_true rfl) (fun z => z) (rX11_lacking (q := q) p0 x6.2 hN) (fun x9 e10 => Or.inl ⟨_, _, rfl, fun z => z, ?_⟩)
      show mm_E2 _ _ _ _ _ [.int x9] x6.2 _ _
      exact me_iret dX11_missing_29 rfl (fun z => z) rfl
    · refine me_iconst (pc' := 23) (v := 0) dX11_missing_22 rfl kc_i0 ?_
      exact me_iret dX11_missing_23 rfl (fun z => z) rfl
  refine me_ifB_ne (pc' := 9) (tgt := 13) dX11_missing_6 (by decide) rfl (fun c11 => ?_) (fun c11 => ?_)
  · refine me_iconst (pc' := 14) (v := 0) dX11_missing_13 rfl kc_i0 ?_
    exact j5p 0
  · refine me_iconst (pc' := 10) (v := 1) dX11_missing_9 rfl kc_i1 ?_
    refine me_goto (tgt := 14) dX11_missing_10 (by decide) ?_
    exact j5p 1
def gX11_allocation (p0 : Int32) (p1 : Int32) (h : mm_H) : Option (Int32 × mm_H) :=
(gX11_isReservation p0 h).bind (fun (x1 : Bool) =>
mm_jn (fun (y3 : Int32) =>
(gX11_fails y3 0 0 h).bind (fun (x6 : (Bool × mm_H)) =>
if x6.1 = true then
some (0, x6.2)
else
(gX11_ofReservation p0 ((4 + p1)) x6.2).bind (fun (x9 : Int32) =>
some (x9, x6.2)))) (fun (j5 : Int32 → Option (Int32 × mm_H)) =>
mm_jn (fun (_ : Unit) =>
j5 1) (fun (j12 : Unit → Option (Int32 × mm_H)) =>
if x1 = true then
(gX11_isBatch p1 h).bind (fun (x14 : Bool) =>
if x14 = true then
j5 0
else
j12 ())
else
j12 ())))
theorem rX11_allocation {q : Nat × Nat} (p0 : Int32) (p1 : Int32) (h : mm_H) (hN : 358 ≤ q.1) : mm_R2 (mm_Sq q) (mm_Sq q) mX11_allocation [.ref 352, .int p0, .int p1] h (gX11_allocation p0 p1 h) lf_ie := by
  refine mm_body (L := [some (.ref 352), some (.int p0), some (.int p1)]) rfl (by decide +kernel) (Nat.le_of_ble_eq_true rfl) rfl ?_
  unfold gX11_allocation
  refine me_aload_n (pc' := 1) (i := 0) dX11_allocation_0 rfl rfl rfl ?_
  refine me_aload_n (pc' := 2) (i := 0) dX11_allocation_1 rfl rfl rfl ?_
  refine me_iload_n (pc' := 3) (i := 1) dX11_allocation_2 rfl rfl rfl ?_
  refine me_callV (As := [.int p0]) (st := [.ref 352]) (F' := (mm_Sq q)) (G' := (mm_Sq q)) (F'' := (mm_Sq q)) (pc' := 6) dX11_allocation_3 rfl mfX11_isReservation rfl lkX11_235 kd_352 rfl (mm_ltm kd_352 hN) ⟨Nat.le_of_ble_eq_true rfl, Nat.le_of_ble_eq_true rfl⟩ (Nat.le_of_ble_eq_true rfl) (fun z => z) (rX11_isReservation (q := q) p0 h hN) (fun x1 e2 => Or.inl ⟨_, _, rfl, fun z => z, ?_⟩)
  show mm_E2 _ _ _ _ _ [.int (mx_bi x1), .ref 352] h _ _
  refine mm_jnI (fun (j59 : Int32 → Option (Int32 × mm_H)) => ∀ (y3 : Int32), mm_E2 (mm_Sq q) (mm_Sq q) mX11_allocation 22 [some (.ref 352), some (.int p0), some (.int p1)] [.int y3, .ref 352] h (j59 y3) lf_ie) ?_ (fun j5 j5p => ?_)
  · intro y3
    refine me_iconst (pc' := 23) (v := 0) dX11_allocation_22 rfl kc_i0 ?_
    refine me_iconst (pc' := 24) (v := 0) dX11_allocation_23 rfl kc_i0 ?_
    refine me_callV (As := [.int y3, .int 0, .int 0]) (st := []) (F' := (mm_Sq q)) (G' := (mm_Sq q)) (F'' := (mm_Sq q)) (pc' := 27) dX11_allocation_24 rfl mfX11_fails rfl lkX11_143 kd_352 rfl (mm_ltm kd_352 hN) ⟨Nat.le_of_ble_eq_true rfl, Nat.le_of_ble_eq_true rfl⟩ (Nat.le_of_ble_eq_true rfl) (fun z => z) (rX11_fails (q := q) y3 0 0 h hN) (fun x6 e7 => Or.inl ⟨_, _, rfl, fun z => z, ?_⟩)
    show mm_E2 _ _ _ _ _ [.int (mx_bi x6.1)] x6.2 _ _
    refine me_ifB_eq (pc' := 30) (tgt := 32) dX11_allocation_27 (by decide) rfl (fun c8 => ?_) (fun c8 => ?_)
    · refine me_aload_n (pc' := 33) (i := 0) dX11_allocation_32 rfl rfl rfl ?_
      refine me_iload_n (pc' := 34) (i := 1) dX11_allocation_33 rfl rfl rfl ?_
      refine me_iconst (pc' := 35) (v := 4) dX11_allocation_34 rfl kc_i4 ?_
      refine me_iload_n (pc' := 36) (i := 2) dX11_allocation_35 rfl rfl rfl ?_
      refine me_iadd (pc' := 37) dX11_allocation_36 rfl ?_
      refine me_callV (As := [.int p0, .int (4 + p1)]) (st := []) (F' := (mm_Sq q)) (G' := (mm_Sq q)) (F'' := (mm_Sq q)) (pc' := 40) dX11_allocation_37 rfl mfX11_ofReservation rfl lkX11_83 kd_352 rfl (mm_ltm kd_352 hN) ⟨Nat.le_of_ble_eq_true rfl, Nat.le_of_ble_eq_true rfl⟩ (Nat.le_of_ble_eq_true rfl) (fun z => z) (rX11_ofReservation (q := q) p0 ((4 + p1)) x6.2 hN) (fun x9 e10 => Or.inl ⟨_, _, rfl, fun z => z, ?_⟩)
      show mm_E2 _ _ _ _ _ [.int x9] x6.2 _ _
      exact me_iret dX11_allocation_40 rfl (fun z => z) rfl
    · refine me_iconst (pc' := 31) (v := 0) dX11_allocation_30 rfl kc_i0 ?_
      exact me_iret dX11_allocation_31 rfl (fun z => z) rfl
  refine mm_jnI (fun (j129 : Unit → Option (Int32 × mm_H)) => ∀ (_ : Unit), mm_E2 (mm_Sq q) (mm_Sq q) mX11_allocation 17 [some (.ref 352), some (.int p0), some (.int p1)] [.ref 352] h (j129 ()) lf_ie) ?_ (fun j12 j12p => ?_)
  · intro _
    refine me_iconst (pc' := 18) (v := 1) dX11_allocation_17 rfl kc_i1 ?_
    refine me_goto (tgt := 22) dX11_allocation_18 (by decide) ?_
    exact j5p 1
  refine me_ifB_eq (pc' := 9) (tgt := 17) dX11_allocation_6 (by decide) rfl (fun c13 => ?_) (fun c13 => ?_)
  · exact j12p ()
  · refine me_aload_n (pc' := 10) (i := 0) dX11_allocation_9 rfl rfl rfl ?_
    refine me_iload_n (pc' := 11) (i := 2) dX11_allocation_10 rfl rfl rfl ?_
    refine me_callV (As := [.int p1]) (st := [.ref 352]) (F' := (mm_Sq q)) (G' := (mm_Sq q)) (F'' := (mm_Sq q)) (pc' := 14) dX11_allocation_11 rfl mfX11_isBatch rfl lkX11_241 kd_352 rfl (mm_ltm kd_352 hN) ⟨Nat.le_of_ble_eq_true rfl, Nat.le_of_ble_eq_true rfl⟩ (Nat.le_of_ble_eq_true rfl) (fun z => z) (rX11_isBatch (q := q) p1 h hN) (fun x14 e15 => Or.inl ⟨_, _, rfl, fun z => z, ?_⟩)
    show mm_E2 _ _ _ _ _ [.int (mx_bi x14), .ref 352] h _ _
    refine me_ifB_ne (pc' := 17) (tgt := 21) dX11_allocation_14 (by decide) rfl (fun c16 => ?_) (fun c16 => ?_)
    · refine me_iconst (pc' := 22) (v := 0) dX11_allocation_21 rfl kc_i0 ?_
      exact j5p 0
    · exact j12p ()
def gX11_whyNotShipped (p0 : Int32) (h : mm_H) : Option (Int32 × mm_H) :=
(gX11_isReservation p0 h).bind (fun (x1 : Bool) =>
mm_jn (fun (y3 : Int32) =>
(gX11_fails y3 0 0 h).bind (fun (x6 : (Bool × mm_H)) =>
if x6.1 = true then
some (0, x6.2)
else
(gX11_shippingReason p0 x6.2).bind (fun (x9 : Int32) =>
some (x9, x6.2)))) (fun (j5 : Int32 → Option (Int32 × mm_H)) =>
if x1 = true then
j5 0
else
j5 1))
theorem rX11_whyNotShipped {q : Nat × Nat} (p0 : Int32) (h : mm_H) (hN : 358 ≤ q.1) : mm_R2 (mm_Sq q) (mm_Sq q) mX11_whyNotShipped [.ref 352, .int p0] h (gX11_whyNotShipped p0 h) lf_ie := by
  refine mm_body (L := [some (.ref 352), some (.int p0)]) rfl (by decide +kernel) (Nat.le_of_ble_eq_true rfl) rfl ?_
  unfold gX11_whyNotShipped
  refine me_aload_n (pc' := 1) (i := 0) dX11_whyNotShipped_0 rfl rfl rfl ?_
  refine me_aload_n (pc' := 2) (i := 0) dX11_whyNotShipped_1 rfl rfl rfl ?_
  refine me_iload_n (pc' := 3) (i := 1) dX11_whyNotShipped_2 rfl rfl rfl ?_
  refine me_callV (As := [.int p0]) (st := [.ref 352]) (F' := (mm_Sq q)) (G' := (mm_Sq q)) (F'' := (mm_Sq q)) (pc' := 6) dX11_whyNotShipped_3 rfl mfX11_isReservation rfl lkX11_235 kd_352 rfl (mm_ltm kd_352 hN) ⟨Nat.le_of_ble_eq_true rfl, Nat.le_of_ble_eq_true rfl⟩ (Nat.le_of_ble_eq_true rfl) (fun z => z) (rX11_isReservation (q := q) p0 h hN) (fun x1 e2 => Or.inl ⟨_, _, rfl, fun z => z, ?_⟩)
  show mm_E2 _ _ _ _ _ [.int (mx_bi x1), .ref 352] h _ _
  refine mm_jnI (fun (j59 : Int32 → Option (Int32 × mm_H)) => ∀ (y3 : Int32), mm_E2 (mm_Sq q) (mm_Sq q) mX11_whyNotShipped 14 [some (.ref 352), some (.int p0)] [.int y3, .ref 352] h (j59 y3) lf_ie) ?_ (fun j5 j5p => ?_)
  · intro y3
    refine me_iconst (pc' := 15) (v := 0) dX11_whyNotShipped_14 rfl kc_i0 ?_
    refine me_iconst (pc' := 16) (v := 0) dX11_whyNotShipped_15 rfl kc_i0 ?_
    refine me_callV (As := [.int y3, .int 0, .int 0]) (st := []) (F' := (mm_Sq q)) (G' := (mm_Sq q)) (F'' := (mm_Sq q)) (pc' := 19) dX11_whyNotShipped_16 rfl mfX11_fails rfl lkX11_143 kd_352 rfl (mm_ltm kd_352 hN) ⟨Nat.le_of_ble_eq_true rfl, Nat.le_of_ble_eq_true rfl⟩ (Nat.le_of_ble_eq_true rfl) (fun z => z) (rX11_fails (q := q) y3 0 0 h hN) (fun x6 e7 => Or.inl ⟨_, _, rfl, fun z => z, ?_⟩)
    show mm_E2 _ _ _ _ _ [.int (mx_bi x6.1)] x6.2 _ _
    refine me_ifB_eq (pc' := 22) (tgt := 24) dX11_whyNotShipped_19 (by decide) rfl (fun c8 => ?_) (fun c8 => ?_)
    · refine me_aload_n (pc' := 25) (i := 0) dX11_whyNotShipped_24 rfl rfl rfl ?_
      refine me_iload_n (pc' := 26) (i := 1) dX11_whyNotShipped_25 rfl rfl rfl ?_
      refine me_callV (As := [.int p0]) (st := []) (F' := (mm_Sq q)) (G' := (mm_Sq q)) (F'' := (mm_Sq q)) (pc' := 29) dX11_whyNotShipped_26 rfl mfX11_shippingReason rfl lkX11_238 kd_352 rfl (mm_ltm kd_352 hN) ⟨Nat.le_of_ble_eq_true rfl, Nat.le_of_ble_eq_true rfl⟩ (Nat.le_of_ble_eq_true rfl) (fun z => z) (rX11_shippingReason (q := q) p0 x6.2 hN) (fun x9 e10 => Or.inl ⟨_, _, rfl, fun z => z, ?_⟩)
      show mm_E2 _ _ _ _ _ [.int x9] x6.2 _ _
      exact me_iret dX11_whyNotShipped_29 rfl (fun z => z) rfl
    · refine me_iconst (pc' := 23) (v := 0) dX11_whyNotShipped_22 rfl kc_i0 ?_
      exact me_iret dX11_whyNotShipped_23 rfl (fun z => z) rfl
  refine me_ifB_ne (pc' := 9) (tgt := 13) dX11_whyNotShipped_6 (by decide) rfl (fun c11 => ?_) (fun c11 => ?_)
  · refine me_iconst (pc' := 14) (v := 0) dX11_whyNotShipped_13 rfl kc_i0 ?_
    exact j5p 0
  · refine me_iconst (pc' := 10) (v := 1) dX11_whyNotShipped_9 rfl kc_i1 ?_
    refine me_goto (tgt := 14) dX11_whyNotShipped_10 (by decide) ?_
    exact j5p 1
def gX11_isEndangered_L12 (u4 : Int32) (h : mm_H) : Nat → Int32 → Option Bool
  | 0, _ => none
  | n + 1, w5 =>
    if mm_ibd 2 4200 = true then
    if w5 < (mh_I h 353 (Int32.toNatClampNeg (2))) then
    (gX11_ofReservation u4 ((4 + w5)) h).bind (fun (x8 : Int32) =>
    mm_jn (fun (_ : Unit) =>
    (some (w5 + 1)).bind (fun (x11 : Int32) =>
    gX11_isEndangered_L12 u4 h n x11)) (fun (j10 : Unit → Option Bool) =>
    if x8 = 0 then
    j10 ()
    else
    (gX11_isPast w5 h).bind (fun (x13 : Bool) =>
    if x13 = true then
    some true
    else
    (gX11_ofBatch w5 2 h).bind (fun (x16 : Int32) =>
    (gX11_ofReservation u4 2 h).bind (fun (x18 : Int32) =>
    if x16 < x18 then
    some true
    else
    j10 ())))))
    else
    some false else none
def gX11_isEndangered (p0 : Int32) (h : mm_H) : Option Bool :=
(gX11_isOpenOne p0 h).bind (fun (x1 : Bool) =>
if x1 = true then
gX11_isEndangered_L12 p0 h mm_F 0
else
some false)
theorem rX11_isEndangered_L12 {q : Nat × Nat}  (u4 : Int32)  (h : mm_H)  (hN : 358 ≤ q.1) : ∀ (n : Nat) (w5 : Int32), mm_E2 (mm_Sq q) (mm_Sq q) mX11_isEndangered 12 [some (.ref 352), some (.int u4), some (.int w5)] [] h (gX11_isEndangered_L12 u4 h n w5) (lf_z h) := by
  intro n
  induction n with
  | zero =>
    intro w5
    exact mm_none
  | succ n ih =>
    intro w5
    rw [gX11_isEndangered_L12]
    refine me_iload_n (pc' := 13) (i := 2) dX11_isEndangered_12 rfl rfl rfl ?_
    refine me_aload_n (pc' := 14) (i := 0) dX11_isEndangered_13 rfl rfl rfl ?_
    refine me_getR (pc' := 17) (q' := 353) dX11_isEndangered_14 rfl fkX11_13 kd_352 (mm_ltm kd_352 hN) rfl (mrX11_0 hN) ?_
    refine me_iconst (pc' := 18) (v := 2) dX11_isEndangered_17 rfl kc_i2 ?_
    refine mm_guard (fun c6 => ?_)
    refine me_iald (pc' := 19) dX11_isEndangered_18 rfl kd_353 (mm_ltm kd_353 hN) (mm_ibd_of c6) ?_
    refine me_icmp_ge (pc' := 22) (tgt := 67) dX11_isEndangered_19 (by decide) rfl (fun c7 => ?_) (fun c7 => ?_)
    · refine me_iconst (pc' := 68) (v := 0) dX11_isEndangered_67 rfl kc_i0 ?_
      exact me_zret (b := false) dX11_isEndangered_68 rfl (fun z => z) rfl
    · refine me_aload_n (pc' := 23) (i := 0) dX11_isEndangered_22 rfl rfl rfl ?_
      refine me_iload_n (pc' := 24) (i := 1) dX11_isEndangered_23 rfl rfl rfl ?_
      refine me_iconst (pc' := 25) (v := 4) dX11_isEndangered_24 rfl kc_i4 ?_
      refine me_iload_n (pc' := 26) (i := 2) dX11_isEndangered_25 rfl rfl rfl ?_
      refine me_iadd (pc' := 27) dX11_isEndangered_26 rfl ?_
      refine me_callV (As := [.int u4, .int (4 + w5)]) (st := []) (F' := (mm_Sq q)) (G' := (mm_Sq q)) (F'' := (mm_Sq q)) (pc' := 30) dX11_isEndangered_27 rfl mfX11_ofReservation rfl lkX11_83 kd_352 rfl (mm_ltm kd_352 hN) ⟨Nat.le_of_ble_eq_true rfl, Nat.le_of_ble_eq_true rfl⟩ (Nat.le_of_ble_eq_true rfl) (fun z => z) (rX11_ofReservation (q := q) u4 ((4 + w5)) h hN) (fun x8 e9 => Or.inl ⟨_, _, rfl, fun z => z, ?_⟩)
      show mm_E2 _ _ _ _ _ [.int x8] h _ _
      refine mm_jnI (fun (j109 : Unit → Option Bool) => ∀ (_ : Unit), mm_E2 (mm_Sq q) (mm_Sq q) mX11_isEndangered 61 [some (.ref 352), some (.int u4), some (.int w5)] [] h (j109 ()) (lf_z h)) ?_ (fun j10 j10p => ?_)
      · intro _
        refine me_iinc (pc' := 64) (i := 2) (x := w5) (y := w5 + 1) (L' := [some (.ref 352), some (.int u4), some (.int (w5 + 1))]) dX11_isEndangered_61 rfl (Nat.le_of_ble_eq_true rfl) (Nat.le_of_ble_eq_true rfl) rfl (kc_plus kc_i1) rfl ?_
        refine mm_bnd (w5 + 1) (fun x11 => [some (.ref 352), some (.int u4), some (.int x11)]) (fun _ => []) (fun _ => h) (fun x11 => ?_)
        refine me_goto (tgt := 12) dX11_isEndangered_64 (by decide) ?_
        exact ih x11
      refine me_if_ne (pc' := 33) (tgt := 36) dX11_isEndangered_30 (by decide) rfl (fun c12 => ?_) (fun c12 => ?_)
      · refine me_aload_n (pc' := 37) (i := 0) dX11_isEndangered_36 rfl rfl rfl ?_
        refine me_iload_n (pc' := 38) (i := 2) dX11_isEndangered_37 rfl rfl rfl ?_
        refine me_callV (As := [.int w5]) (st := []) (F' := (mm_Sq q)) (G' := (mm_Sq q)) (F'' := (mm_Sq q)) (pc' := 41) dX11_isEndangered_38 rfl mfX11_isPast rfl lkX11_124 kd_352 rfl (mm_ltm kd_352 hN) ⟨Nat.le_of_ble_eq_true rfl, Nat.le_of_ble_eq_true rfl⟩ (Nat.le_of_ble_eq_true rfl) (fun z => z) (rX11_isPast (q := q) w5 h hN) (fun x13 e14 => Or.inl ⟨_, _, rfl, fun z => z, ?_⟩)
        show mm_E2 _ _ _ _ _ [.int (mx_bi x13)] h _ _
        refine me_ifB_ne (pc' := 44) (tgt := 59) dX11_isEndangered_41 (by decide) rfl (fun c15 => ?_) (fun c15 => ?_)
        · refine me_iconst (pc' := 60) (v := 1) dX11_isEndangered_59 rfl kc_i1 ?_
          exact me_zret (b := true) dX11_isEndangered_60 rfl (fun z => z) rfl
        · refine me_aload_n (pc' := 45) (i := 0) dX11_isEndangered_44 rfl rfl rfl ?_
          refine me_iload_n (pc' := 46) (i := 2) dX11_isEndangered_45 rfl rfl rfl ?_
          refine me_iconst (pc' := 47) (v := 2) dX11_isEndangered_46 rfl kc_i2 ?_
          refine me_callV (As := [.int w5, .int 2]) (st := []) (F' := (mm_Sq q)) (G' := (mm_Sq q)) (F'' := (mm_Sq q)) (pc' := 50) dX11_isEndangered_47 rfl mfX11_ofBatch rfl lkX11_91 kd_352 rfl (mm_ltm kd_352 hN) ⟨Nat.le_of_ble_eq_true rfl, Nat.le_of_ble_eq_true rfl⟩ (Nat.le_of_ble_eq_true rfl) (fun z => z) (rX11_ofBatch (q := q) w5 2 h hN) (fun x16 e17 => Or.inl ⟨_, _, rfl, fun z => z, ?_⟩)
          show mm_E2 _ _ _ _ _ [.int x16] h _ _
          refine me_aload_n (pc' := 51) (i := 0) dX11_isEndangered_50 rfl rfl rfl ?_
          refine me_iload_n (pc' := 52) (i := 1) dX11_isEndangered_51 rfl rfl rfl ?_
          refine me_iconst (pc' := 53) (v := 2) dX11_isEndangered_52 rfl kc_i2 ?_
          refine me_callV (As := [.int u4, .int 2]) (st := [.int x16]) (F' := (mm_Sq q)) (G' := (mm_Sq q)) (F'' := (mm_Sq q)) (pc' := 56) dX11_isEndangered_53 rfl mfX11_ofReservation rfl lkX11_83 kd_352 rfl (mm_ltm kd_352 hN) ⟨Nat.le_of_ble_eq_true rfl, Nat.le_of_ble_eq_true rfl⟩ (Nat.le_of_ble_eq_true rfl) (fun z => z) (rX11_ofReservation (q := q) u4 2 h hN) (fun x18 e19 => Or.inl ⟨_, _, rfl, fun z => z, ?_⟩)
          show mm_E2 _ _ _ _ _ [.int x18, .int x16] h _ _
          refine me_icmp_ge (pc' := 59) (tgt := 61) dX11_isEndangered_56 (by decide) rfl (fun c20 => ?_) (fun c20 => ?_)
          · exact j10p ()
          · refine me_iconst (pc' := 60) (v := 1) dX11_isEndangered_59 rfl kc_i1 ?_
            exact me_zret (b := true) dX11_isEndangered_60 rfl (fun z => z) rfl
      · refine me_goto (tgt := 61) dX11_isEndangered_33 (by decide) ?_
        exact j10p ()
theorem rX11_isEndangered {q : Nat × Nat} (p0 : Int32) (h : mm_H) (hN : 358 ≤ q.1) : mm_R2 (mm_Sq q) (mm_Sq q) mX11_isEndangered [.ref 352, .int p0] h (gX11_isEndangered p0 h) (lf_z h) := by
  refine mm_body (L := [some (.ref 352), some (.int p0), none]) rfl (by decide +kernel) (Nat.le_of_ble_eq_true rfl) rfl ?_
  unfold gX11_isEndangered
  refine me_aload_n (pc' := 1) (i := 0) dX11_isEndangered_0 rfl rfl rfl ?_
  refine me_iload_n (pc' := 2) (i := 1) dX11_isEndangered_1 rfl rfl rfl ?_
  refine me_callV (As := [.int p0]) (st := []) (F' := (mm_Sq q)) (G' := (mm_Sq q)) (F'' := (mm_Sq q)) (pc' := 5) dX11_isEndangered_2 rfl mfX11_isOpenOne rfl lkX11_87 kd_352 rfl (mm_ltm kd_352 hN) ⟨Nat.le_of_ble_eq_true rfl, Nat.le_of_ble_eq_true rfl⟩ (Nat.le_of_ble_eq_true rfl) (fun z => z) (rX11_isOpenOne (q := q) p0 h hN) (fun x1 e2 => Or.inl ⟨_, _, rfl, fun z => z, ?_⟩)
  show mm_E2 _ _ _ _ _ [.int (mx_bi x1)] h _ _
  refine me_ifB_ne (pc' := 8) (tgt := 10) dX11_isEndangered_5 (by decide) rfl (fun c3 => ?_) (fun c3 => ?_)
  · refine me_iconst (pc' := 11) (v := 0) dX11_isEndangered_10 rfl kc_i0 ?_
    refine me_istore_n (pc' := 12) (i := 2) (L' := [some (.ref 352), some (.int p0), some (.int 0)]) dX11_isEndangered_11 rfl rfl (Nat.le_of_ble_eq_true rfl) (Nat.le_of_ble_eq_true rfl) rfl ?_
    exact rX11_isEndangered_L12 (q := q) p0 h hN mm_F 0
  · refine me_iconst (pc' := 9) (v := 0) dX11_isEndangered_8 rfl kc_i0 ?_
    exact me_zret (b := false) dX11_isEndangered_9 rfl (fun z => z) rfl
def gX11_endangeredReservations_L9 (h : mm_H) : Nat → Int32 → Int32 → Option (Int32 × mm_H)
  | 0, _, _ => none
  | n + 1, w2, w3 =>
    if mm_ibd 3 4200 = true then
    if w3 < (mh_I h 353 (Int32.toNatClampNeg (3))) then
    (gX11_isEndangered w3 h).bind (fun (x6 : Bool) =>
    mm_jn (fun (y8 : Int32) (y9 : Int32) =>
    (some ((y9 + y8))).bind (fun (x11 : Int32) =>
    (some (w3 + 1)).bind (fun (x12 : Int32) =>
    gX11_endangeredReservations_L9 h n x11 x12))) (fun (j10 : Int32 → Int32 → Option (Int32 × mm_H)) =>
    if x6 = true then
    j10 1 w2
    else
    j10 0 w2))
    else
    some (w2, h) else none
def gX11_endangeredReservations (h : mm_H) : Option (Int32 × mm_H) :=
(some (ms_I h 352 9 0)).bind (fun (h1 : mm_H) =>
gX11_endangeredReservations_L9 h1 mm_F 0 0)
theorem rX11_endangeredReservations_L9 {q : Nat × Nat}    (h : mm_H)  (hN : 358 ≤ q.1) : ∀ (n : Nat) (w2 : Int32) (w3 : Int32), mm_E2 (mm_Sq q) (mm_Sq q) mX11_endangeredReservations 9 [some (.ref 352), some (.int w2), some (.int w3)] [] h (gX11_endangeredReservations_L9 h n w2 w3) lf_ie := by
  intro n
  induction n with
  | zero =>
    intro w2 w3
    exact mm_none
  | succ n ih =>
    intro w2 w3
    rw [gX11_endangeredReservations_L9]
    refine me_iload_n (pc' := 10) (i := 2) dX11_endangeredReservations_9 rfl rfl rfl ?_
    refine me_aload_n (pc' := 11) (i := 0) dX11_endangeredReservations_10 rfl rfl rfl ?_
    refine me_getR (pc' := 14) (q' := 353) dX11_endangeredReservations_11 rfl fkX11_13 kd_352 (mm_ltm kd_352 hN) rfl (mrX11_0 hN) ?_
    refine me_iconst (pc' := 15) (v := 3) dX11_endangeredReservations_14 rfl kc_i3 ?_
    refine mm_guard (fun c4 => ?_)
    refine me_iald (pc' := 16) dX11_endangeredReservations_15 rfl kd_353 (mm_ltm kd_353 hN) (mm_ibd_of c4) ?_
    refine me_icmp_ge (pc' := 19) (tgt := 41) dX11_endangeredReservations_16 (by decide) rfl (fun c5 => ?_) (fun c5 => ?_)
    · refine me_iload_n (pc' := 42) (i := 1) dX11_endangeredReservations_41 rfl rfl rfl ?_
      exact me_iret dX11_endangeredReservations_42 rfl (fun z => z) rfl
    · refine me_iload_n (pc' := 20) (i := 1) dX11_endangeredReservations_19 rfl rfl rfl ?_
      refine me_aload_n (pc' := 21) (i := 0) dX11_endangeredReservations_20 rfl rfl rfl ?_
      refine me_iload_n (pc' := 22) (i := 2) dX11_endangeredReservations_21 rfl rfl rfl ?_
      refine me_callV (As := [.int w3]) (st := [.int w2]) (F' := (mm_Sq q)) (G' := (mm_Sq q)) (F'' := (mm_Sq q)) (pc' := 25) dX11_endangeredReservations_22 rfl mfX11_isEndangered rfl lkX11_307 kd_352 rfl (mm_ltm kd_352 hN) ⟨Nat.le_of_ble_eq_true rfl, Nat.le_of_ble_eq_true rfl⟩ (Nat.le_of_ble_eq_true rfl) (fun z => z) (rX11_isEndangered (q := q) w3 h hN) (fun x6 e7 => Or.inl ⟨_, _, rfl, fun z => z, ?_⟩)
      show mm_E2 _ _ _ _ _ [.int (mx_bi x6), .int w2] h _ _
      refine mm_jnI (fun (j109 : Int32 → Int32 → Option (Int32 × mm_H)) => ∀ (y8 : Int32) (y9 : Int32), mm_E2 (mm_Sq q) (mm_Sq q) mX11_endangeredReservations 33 [some (.ref 352), none, some (.int w3)] [.int y8, .int y9] h (j109 y8 y9) lf_ie) ?_ (fun j10 j10p => ?_)
      · intro y8 y9
        refine me_iadd (pc' := 34) dX11_endangeredReservations_33 rfl ?_
        refine mm_bnd ((y9 + y8)) (fun x11 => [some (.ref 352), none, some (.int w3)]) (fun x11 => [.int x11]) (fun _ => h) (fun x11 => ?_)
        refine me_istore_n (pc' := 35) (i := 1) (L' := [some (.ref 352), some (.int x11), some (.int w3)]) dX11_endangeredReservations_34 rfl rfl (Nat.le_of_ble_eq_true rfl) (Nat.le_of_ble_eq_true rfl) rfl ?_
        refine me_iinc (pc' := 38) (i := 2) (x := w3) (y := w3 + 1) (L' := [some (.ref 352), some (.int x11), some (.int (w3 + 1))]) dX11_endangeredReservations_35 rfl (Nat.le_of_ble_eq_true rfl) (Nat.le_of_ble_eq_true rfl) rfl (kc_plus kc_i1) rfl ?_
        refine mm_bnd (w3 + 1) (fun x12 => [some (.ref 352), some (.int x11), some (.int x12)]) (fun _ => []) (fun _ => h) (fun x12 => ?_)
        refine me_goto (tgt := 9) dX11_endangeredReservations_38 (by decide) ?_
        exact ih x11 x12
      refine me_ifB_eq (pc' := 28) (tgt := 32) dX11_endangeredReservations_25 (by decide) rfl (fun c13 => ?_) (fun c13 => ?_)
      · refine me_iconst (pc' := 33) (v := 0) dX11_endangeredReservations_32 rfl kc_i0 ?_
        exact mm_maskB [true, false, true] (j10p 0 w2)
      · refine me_iconst (pc' := 29) (v := 1) dX11_endangeredReservations_28 rfl kc_i1 ?_
        refine me_goto (tgt := 33) dX11_endangeredReservations_29 (by decide) ?_
        exact mm_maskB [true, false, true] (j10p 1 w2)
theorem rX11_endangeredReservations {q : Nat × Nat} (h : mm_H) (hN : 358 ≤ q.1) : mm_R2 (mm_Sq q) (mm_Sq q) mX11_endangeredReservations [.ref 352] h (gX11_endangeredReservations h) lf_ie := by
  refine mm_body (L := [some (.ref 352), none, none]) rfl (by decide +kernel) (Nat.le_of_ble_eq_true rfl) rfl ?_
  unfold gX11_endangeredReservations
  refine me_aload_n (pc' := 1) (i := 0) dX11_endangeredReservations_0 rfl rfl rfl ?_
  refine me_iconst (pc' := 2) (v := 0) dX11_endangeredReservations_1 rfl kc_i0 ?_
  refine me_putI (F' := (mm_Sq q)) (pc' := 5) dX11_endangeredReservations_2 rfl fkX11_1 kd_352 (mm_ltm kd_352 hN) rfl pgX11_9 (fun z => z) ?_
  refine mm_bnd (ms_I h 352 9 0) (fun _ => [some (.ref 352), none, none]) (fun _ => []) (fun h1 => h1) (fun h1 => ?_)
  refine me_iconst (pc' := 6) (v := 0) dX11_endangeredReservations_5 rfl kc_i0 ?_
  refine me_istore_n (pc' := 7) (i := 1) (L' := [some (.ref 352), some (.int 0), none]) dX11_endangeredReservations_6 rfl rfl (Nat.le_of_ble_eq_true rfl) (Nat.le_of_ble_eq_true rfl) rfl ?_
  refine me_iconst (pc' := 8) (v := 0) dX11_endangeredReservations_7 rfl kc_i0 ?_
  refine me_istore_n (pc' := 9) (i := 2) (L' := [some (.ref 352), some (.int 0), some (.int 0)]) dX11_endangeredReservations_8 rfl rfl (Nat.le_of_ble_eq_true rfl) (Nat.le_of_ble_eq_true rfl) rfl ?_
  exact rX11_endangeredReservations_L9 (q := q) h1 hN mm_F 0 0
def gX11_receivedUnits (p0 : Int32) (h : mm_H) : Option (Int32 × mm_H) :=
(gX11_productField p0 8 h).bind (fun (x1 : (Int32 × mm_H)) =>
some (x1.1, x1.2))
theorem rX11_receivedUnits {q : Nat × Nat} (p0 : Int32) (h : mm_H) (hN : 358 ≤ q.1) : mm_R2 (mm_Sq q) (mm_Sq q) mX11_receivedUnits [.ref 352, .int p0] h (gX11_receivedUnits p0 h) lf_ie := by
  refine mm_body (L := [some (.ref 352), some (.int p0)]) rfl (by decide +kernel) (Nat.le_of_ble_eq_true rfl) rfl ?_
  unfold gX11_receivedUnits
  refine me_aload_n (pc' := 1) (i := 0) dX11_receivedUnits_0 rfl rfl rfl ?_
  refine me_iload_n (pc' := 2) (i := 1) dX11_receivedUnits_1 rfl rfl rfl ?_
  refine me_bipush (pc' := 4) (v := 8) dX11_receivedUnits_2 rfl kc_b8 ?_
  refine me_callV (As := [.int p0, .int 8]) (st := []) (F' := (mm_Sq q)) (G' := (mm_Sq q)) (F'' := (mm_Sq q)) (pc' := 7) dX11_receivedUnits_4 rfl mfX11_productField rfl lkX11_286 kd_352 rfl (mm_ltm kd_352 hN) ⟨Nat.le_of_ble_eq_true rfl, Nat.le_of_ble_eq_true rfl⟩ (Nat.le_of_ble_eq_true rfl) (fun z => z) (rX11_productField (q := q) p0 8 h hN) (fun x1 e2 => Or.inl ⟨_, _, rfl, fun z => z, ?_⟩)
  show mm_E2 _ _ _ _ _ [.int x1.1] x1.2 _ _
  exact me_iret dX11_receivedUnits_7 rfl (fun z => z) rfl
def gX11_deliveredUnits (p0 : Int32) (h : mm_H) : Option (Int32 × mm_H) :=
(gX11_productField p0 9 h).bind (fun (x1 : (Int32 × mm_H)) =>
some (x1.1, x1.2))
theorem rX11_deliveredUnits {q : Nat × Nat} (p0 : Int32) (h : mm_H) (hN : 358 ≤ q.1) : mm_R2 (mm_Sq q) (mm_Sq q) mX11_deliveredUnits [.ref 352, .int p0] h (gX11_deliveredUnits p0 h) lf_ie := by
  refine mm_body (L := [some (.ref 352), some (.int p0)]) rfl (by decide +kernel) (Nat.le_of_ble_eq_true rfl) rfl ?_
  unfold gX11_deliveredUnits
  refine me_aload_n (pc' := 1) (i := 0) dX11_deliveredUnits_0 rfl rfl rfl ?_
  refine me_iload_n (pc' := 2) (i := 1) dX11_deliveredUnits_1 rfl rfl rfl ?_
  refine me_bipush (pc' := 4) (v := 9) dX11_deliveredUnits_2 rfl kc_b9 ?_
  refine me_callV (As := [.int p0, .int 9]) (st := []) (F' := (mm_Sq q)) (G' := (mm_Sq q)) (F'' := (mm_Sq q)) (pc' := 7) dX11_deliveredUnits_4 rfl mfX11_productField rfl lkX11_286 kd_352 rfl (mm_ltm kd_352 hN) ⟨Nat.le_of_ble_eq_true rfl, Nat.le_of_ble_eq_true rfl⟩ (Nat.le_of_ble_eq_true rfl) (fun z => z) (rX11_productField (q := q) p0 9 h hN) (fun x1 e2 => Or.inl ⟨_, _, rfl, fun z => z, ?_⟩)
  show mm_E2 _ _ _ _ _ [.int x1.1] x1.2 _ _
  exact me_iret dX11_deliveredUnits_7 rfl (fun z => z) rfl
def gX11_writtenOffUnits (p0 : Int32) (h : mm_H) : Option (Int32 × mm_H) :=
(gX11_productField p0 10 h).bind (fun (x1 : (Int32 × mm_H)) =>
some (x1.1, x1.2))
theorem rX11_writtenOffUnits {q : Nat × Nat} (p0 : Int32) (h : mm_H) (hN : 358 ≤ q.1) : mm_R2 (mm_Sq q) (mm_Sq q) mX11_writtenOffUnits [.ref 352, .int p0] h (gX11_writtenOffUnits p0 h) lf_ie := by
  refine mm_body (L := [some (.ref 352), some (.int p0)]) rfl (by decide +kernel) (Nat.le_of_ble_eq_true rfl) rfl ?_
  unfold gX11_writtenOffUnits
  refine me_aload_n (pc' := 1) (i := 0) dX11_writtenOffUnits_0 rfl rfl rfl ?_
  refine me_iload_n (pc' := 2) (i := 1) dX11_writtenOffUnits_1 rfl rfl rfl ?_
  refine me_bipush (pc' := 4) (v := 10) dX11_writtenOffUnits_2 rfl kc_b10 ?_
  refine me_callV (As := [.int p0, .int 10]) (st := []) (F' := (mm_Sq q)) (G' := (mm_Sq q)) (F'' := (mm_Sq q)) (pc' := 7) dX11_writtenOffUnits_4 rfl mfX11_productField rfl lkX11_286 kd_352 rfl (mm_ltm kd_352 hN) ⟨Nat.le_of_ble_eq_true rfl, Nat.le_of_ble_eq_true rfl⟩ (Nat.le_of_ble_eq_true rfl) (fun z => z) (rX11_productField (q := q) p0 10 h hN) (fun x1 e2 => Or.inl ⟨_, _, rfl, fun z => z, ?_⟩)
  show mm_E2 _ _ _ _ _ [.int x1.1] x1.2 _ _
  exact me_iret dX11_writtenOffUnits_7 rfl (fun z => z) rfl
def gX11_adjustment (p0 : Int32) (h : mm_H) : Option (Int32 × mm_H) :=
(gX11_productField p0 11 h).bind (fun (x1 : (Int32 × mm_H)) =>
some (x1.1, x1.2))
theorem rX11_adjustment {q : Nat × Nat} (p0 : Int32) (h : mm_H) (hN : 358 ≤ q.1) : mm_R2 (mm_Sq q) (mm_Sq q) mX11_adjustment [.ref 352, .int p0] h (gX11_adjustment p0 h) lf_ie := by
  refine mm_body (L := [some (.ref 352), some (.int p0)]) rfl (by decide +kernel) (Nat.le_of_ble_eq_true rfl) rfl ?_
  unfold gX11_adjustment
  refine me_aload_n (pc' := 1) (i := 0) dX11_adjustment_0 rfl rfl rfl ?_
  refine me_iload_n (pc' := 2) (i := 1) dX11_adjustment_1 rfl rfl rfl ?_
  refine me_bipush (pc' := 4) (v := 11) dX11_adjustment_2 rfl kc_b11 ?_
  refine me_callV (As := [.int p0, .int 11]) (st := []) (F' := (mm_Sq q)) (G' := (mm_Sq q)) (F'' := (mm_Sq q)) (pc' := 7) dX11_adjustment_4 rfl mfX11_productField rfl lkX11_286 kd_352 rfl (mm_ltm kd_352 hN) ⟨Nat.le_of_ble_eq_true rfl, Nat.le_of_ble_eq_true rfl⟩ (Nat.le_of_ble_eq_true rfl) (fun z => z) (rX11_productField (q := q) p0 11 h hN) (fun x1 e2 => Or.inl ⟨_, _, rfl, fun z => z, ?_⟩)
  show mm_E2 _ _ _ _ _ [.int x1.1] x1.2 _ _
  exact me_iret dX11_adjustment_7 rfl (fun z => z) rfl
def gX11_meanCost (p0 : Int32) (h : mm_H) : Option (UInt64 × mm_H) :=
(gX11_isProduct p0 h).bind (fun (x1 : Bool) =>
mm_jn (fun (y3 : Int32) =>
(gX11_fails y3 0 0 h).bind (fun (x6 : (Bool × mm_H)) =>
if x6.1 = true then
some (FP.dconst0, x6.2)
else
(gX11_stock p0 x6.2).bind (fun (x9 : Int32) =>
if x9 = 0 then
some (FP.dconst0, x6.2)
else
(gX11_worth p0 x6.2).bind (fun (x12 : Int32) =>
(gX11_stock p0 x6.2).bind (fun (x14 : Int32) =>
if mm_n64 (FP.ddiv ((FP.i2d x12)) ((FP.i2d x14))) = true then
some ((FP.ddiv ((FP.i2d x12)) ((FP.i2d x14))), x6.2) else none))))) (fun (j5 : Int32 → Option (UInt64 × mm_H)) =>
if x1 = true then
j5 0
else
j5 1))
theorem rX11_meanCost {q : Nat × Nat} (p0 : Int32) (h : mm_H) (hN : 358 ≤ q.1) : mm_R2 (mm_Sq q) (mm_Sq q) mX11_meanCost [.ref 352, .int p0] h (gX11_meanCost p0 h) lf_de := by
  refine mm_body (L := [some (.ref 352), some (.int p0)]) rfl (by decide +kernel) (Nat.le_of_ble_eq_true rfl) rfl ?_
  unfold gX11_meanCost
  refine me_aload_n (pc' := 1) (i := 0) dX11_meanCost_0 rfl rfl rfl ?_
  refine me_aload_n (pc' := 2) (i := 0) dX11_meanCost_1 rfl rfl rfl ?_
  refine me_iload_n (pc' := 3) (i := 1) dX11_meanCost_2 rfl rfl rfl ?_
  refine me_callV (As := [.int p0]) (st := [.ref 352]) (F' := (mm_Sq q)) (G' := (mm_Sq q)) (F'' := (mm_Sq q)) (pc' := 6) dX11_meanCost_3 rfl mfX11_isProduct rfl lkX11_283 kd_352 rfl (mm_ltm kd_352 hN) ⟨Nat.le_of_ble_eq_true rfl, Nat.le_of_ble_eq_true rfl⟩ (Nat.le_of_ble_eq_true rfl) (fun z => z) (rX11_isProduct (q := q) p0 h hN) (fun x1 e2 => Or.inl ⟨_, _, rfl, fun z => z, ?_⟩)
  show mm_E2 _ _ _ _ _ [.int (mx_bi x1), .ref 352] h _ _
  refine mm_jnI (fun (j59 : Int32 → Option (UInt64 × mm_H)) => ∀ (y3 : Int32), mm_E2 (mm_Sq q) (mm_Sq q) mX11_meanCost 14 [some (.ref 352), some (.int p0)] [.int y3, .ref 352] h (j59 y3) lf_de) ?_ (fun j5 j5p => ?_)
  · intro y3
    refine me_iconst (pc' := 15) (v := 0) dX11_meanCost_14 rfl kc_i0 ?_
    refine me_iconst (pc' := 16) (v := 0) dX11_meanCost_15 rfl kc_i0 ?_
    refine me_callV (As := [.int y3, .int 0, .int 0]) (st := []) (F' := (mm_Sq q)) (G' := (mm_Sq q)) (F'' := (mm_Sq q)) (pc' := 19) dX11_meanCost_16 rfl mfX11_fails rfl lkX11_143 kd_352 rfl (mm_ltm kd_352 hN) ⟨Nat.le_of_ble_eq_true rfl, Nat.le_of_ble_eq_true rfl⟩ (Nat.le_of_ble_eq_true rfl) (fun z => z) (rX11_fails (q := q) y3 0 0 h hN) (fun x6 e7 => Or.inl ⟨_, _, rfl, fun z => z, ?_⟩)
    show mm_E2 _ _ _ _ _ [.int (mx_bi x6.1)] x6.2 _ _
    refine me_ifB_eq (pc' := 22) (tgt := 24) dX11_meanCost_19 (by decide) rfl (fun c8 => ?_) (fun c8 => ?_)
    · refine me_aload_n (pc' := 25) (i := 0) dX11_meanCost_24 rfl rfl rfl ?_
      refine me_iload_n (pc' := 26) (i := 1) dX11_meanCost_25 rfl rfl rfl ?_
      refine me_callV (As := [.int p0]) (st := []) (F' := (mm_Sq q)) (G' := (mm_Sq q)) (F'' := (mm_Sq q)) (pc' := 29) dX11_meanCost_26 rfl mfX11_stock rfl lkX11_289 kd_352 rfl (mm_ltm kd_352 hN) ⟨Nat.le_of_ble_eq_true rfl, Nat.le_of_ble_eq_true rfl⟩ (Nat.le_of_ble_eq_true rfl) (fun z => z) (rX11_stock (q := q) p0 x6.2 hN) (fun x9 e10 => Or.inl ⟨_, _, rfl, fun z => z, ?_⟩)
      show mm_E2 _ _ _ _ _ [.int x9] x6.2 _ _
      refine me_if_ne (pc' := 32) (tgt := 36) dX11_meanCost_29 (by decide) rfl (fun c11 => ?_) (fun c11 => ?_)
      · refine me_aload_n (pc' := 37) (i := 0) dX11_meanCost_36 rfl rfl rfl ?_
        refine me_iload_n (pc' := 38) (i := 1) dX11_meanCost_37 rfl rfl rfl ?_
        refine me_callV (As := [.int p0]) (st := []) (F' := (mm_Sq q)) (G' := (mm_Sq q)) (F'' := (mm_Sq q)) (pc' := 41) dX11_meanCost_38 rfl mfX11_worth rfl lkX11_292 kd_352 rfl (mm_ltm kd_352 hN) ⟨Nat.le_of_ble_eq_true rfl, Nat.le_of_ble_eq_true rfl⟩ (Nat.le_of_ble_eq_true rfl) (fun z => z) (rX11_worth (q := q) p0 x6.2 hN) (fun x12 e13 => Or.inl ⟨_, _, rfl, fun z => z, ?_⟩)
        show mm_E2 _ _ _ _ _ [.int x12] x6.2 _ _
        refine me_i2d (pc' := 42) dX11_meanCost_41 rfl ?_
        refine me_aload_n (pc' := 43) (i := 0) dX11_meanCost_42 rfl rfl rfl ?_
        refine me_iload_n (pc' := 44) (i := 1) dX11_meanCost_43 rfl rfl rfl ?_
        refine me_callV (As := [.int p0]) (st := [.double (FP.i2d x12)]) (F' := (mm_Sq q)) (G' := (mm_Sq q)) (F'' := (mm_Sq q)) (pc' := 47) dX11_meanCost_44 rfl mfX11_stock rfl lkX11_289 kd_352 rfl (mm_ltm kd_352 hN) ⟨Nat.le_of_ble_eq_true rfl, Nat.le_of_ble_eq_true rfl⟩ (Nat.le_of_ble_eq_true rfl) (fun z => z) (rX11_stock (q := q) p0 x6.2 hN) (fun x14 e15 => Or.inl ⟨_, _, rfl, fun z => z, ?_⟩)
        show mm_E2 _ _ _ _ _ [.int x14, .double (FP.i2d x12)] x6.2 _ _
        refine me_i2d (pc' := 48) dX11_meanCost_47 rfl ?_
        refine mm_guard (fun c16 => ?_)
        refine me_ddiv (pc' := 49) dX11_meanCost_48 rfl (mm_n64_of c16) ?_
        exact me_dret dX11_meanCost_49 rfl (fun z => z) rfl
      · refine me_dconst0 (pc' := 33) dX11_meanCost_32 rfl ?_
        refine me_goto (tgt := 49) dX11_meanCost_33 (by decide) ?_
        exact me_dret dX11_meanCost_49 rfl (fun z => z) rfl
    · refine me_dconst0 (pc' := 23) dX11_meanCost_22 rfl ?_
      exact me_dret dX11_meanCost_23 rfl (fun z => z) rfl
  refine me_ifB_ne (pc' := 9) (tgt := 13) dX11_meanCost_6 (by decide) rfl (fun c17 => ?_) (fun c17 => ?_)
  · refine me_iconst (pc' := 14) (v := 0) dX11_meanCost_13 rfl kc_i0 ?_
    exact j5p 0
  · refine me_iconst (pc' := 10) (v := 1) dX11_meanCost_9 rfl kc_i1 ?_
    refine me_goto (tgt := 14) dX11_meanCost_10 (by decide) ?_
    exact j5p 1
def gX11_wasteShare (p0 : Int32) (h : mm_H) : Option (UInt32 × mm_H) :=
(gX11_isProduct p0 h).bind (fun (x1 : Bool) =>
mm_jn (fun (y3 : Int32) =>
(gX11_fails y3 0 0 h).bind (fun (x6 : (Bool × mm_H)) =>
if x6.1 = true then
some (FP.fconst0, x6.2)
else
(gX11_ofProduct p0 8 x6.2).bind (fun (x9 : Int32) =>
if x9 = 0 then
some (FP.fconst0, x6.2)
else
(gX11_ofProduct p0 10 x6.2).bind (fun (x12 : Int32) =>
if mm_n32 (FP.fdiv ((FP.i2f x12)) ((FP.i2f x9))) = true then
some ((FP.fdiv ((FP.i2f x12)) ((FP.i2f x9))), x6.2) else none)))) (fun (j5 : Int32 → Option (UInt32 × mm_H)) =>
if x1 = true then
j5 0
else
j5 1))
theorem rX11_wasteShare {q : Nat × Nat} (p0 : Int32) (h : mm_H) (hN : 358 ≤ q.1) : mm_R2 (mm_Sq q) (mm_Sq q) mX11_wasteShare [.ref 352, .int p0] h (gX11_wasteShare p0 h) lf_fe := by
  refine mm_body (L := [some (.ref 352), some (.int p0), none]) rfl (by decide +kernel) (Nat.le_of_ble_eq_true rfl) rfl ?_
  unfold gX11_wasteShare
  refine me_aload_n (pc' := 1) (i := 0) dX11_wasteShare_0 rfl rfl rfl ?_
  refine me_aload_n (pc' := 2) (i := 0) dX11_wasteShare_1 rfl rfl rfl ?_
  refine me_iload_n (pc' := 3) (i := 1) dX11_wasteShare_2 rfl rfl rfl ?_
  refine me_callV (As := [.int p0]) (st := [.ref 352]) (F' := (mm_Sq q)) (G' := (mm_Sq q)) (F'' := (mm_Sq q)) (pc' := 6) dX11_wasteShare_3 rfl mfX11_isProduct rfl lkX11_283 kd_352 rfl (mm_ltm kd_352 hN) ⟨Nat.le_of_ble_eq_true rfl, Nat.le_of_ble_eq_true rfl⟩ (Nat.le_of_ble_eq_true rfl) (fun z => z) (rX11_isProduct (q := q) p0 h hN) (fun x1 e2 => Or.inl ⟨_, _, rfl, fun z => z, ?_⟩)
  show mm_E2 _ _ _ _ _ [.int (mx_bi x1), .ref 352] h _ _
  refine mm_jnI (fun (j59 : Int32 → Option (UInt32 × mm_H)) => ∀ (y3 : Int32), mm_E2 (mm_Sq q) (mm_Sq q) mX11_wasteShare 14 [some (.ref 352), some (.int p0), none] [.int y3, .ref 352] h (j59 y3) lf_fe) ?_ (fun j5 j5p => ?_)
  · intro y3
    refine me_iconst (pc' := 15) (v := 0) dX11_wasteShare_14 rfl kc_i0 ?_
    refine me_iconst (pc' := 16) (v := 0) dX11_wasteShare_15 rfl kc_i0 ?_
    refine me_callV (As := [.int y3, .int 0, .int 0]) (st := []) (F' := (mm_Sq q)) (G' := (mm_Sq q)) (F'' := (mm_Sq q)) (pc' := 19) dX11_wasteShare_16 rfl mfX11_fails rfl lkX11_143 kd_352 rfl (mm_ltm kd_352 hN) ⟨Nat.le_of_ble_eq_true rfl, Nat.le_of_ble_eq_true rfl⟩ (Nat.le_of_ble_eq_true rfl) (fun z => z) (rX11_fails (q := q) y3 0 0 h hN) (fun x6 e7 => Or.inl ⟨_, _, rfl, fun z => z, ?_⟩)
    show mm_E2 _ _ _ _ _ [.int (mx_bi x6.1)] x6.2 _ _
    refine me_ifB_eq (pc' := 22) (tgt := 24) dX11_wasteShare_19 (by decide) rfl (fun c8 => ?_) (fun c8 => ?_)
    · refine me_aload_n (pc' := 25) (i := 0) dX11_wasteShare_24 rfl rfl rfl ?_
      refine me_iload_n (pc' := 26) (i := 1) dX11_wasteShare_25 rfl rfl rfl ?_
      refine me_bipush (pc' := 28) (v := 8) dX11_wasteShare_26 rfl kc_b8 ?_
      refine me_callV (As := [.int p0, .int 8]) (st := []) (F' := (mm_Sq q)) (G' := (mm_Sq q)) (F'' := (mm_Sq q)) (pc' := 31) dX11_wasteShare_28 rfl mfX11_ofProduct rfl lkX11_127 kd_352 rfl (mm_ltm kd_352 hN) ⟨Nat.le_of_ble_eq_true rfl, Nat.le_of_ble_eq_true rfl⟩ (Nat.le_of_ble_eq_true rfl) (fun z => z) (rX11_ofProduct (q := q) p0 8 x6.2 hN) (fun x9 e10 => Or.inl ⟨_, _, rfl, fun z => z, ?_⟩)
      show mm_E2 _ _ _ _ _ [.int x9] x6.2 _ _
      refine me_istore_n (pc' := 32) (i := 2) (L' := [some (.ref 352), some (.int p0), some (.int x9)]) dX11_wasteShare_31 rfl rfl (Nat.le_of_ble_eq_true rfl) (Nat.le_of_ble_eq_true rfl) rfl ?_
      refine me_iload_n (pc' := 33) (i := 2) dX11_wasteShare_32 rfl rfl rfl ?_
      refine me_if_ne (pc' := 36) (tgt := 40) dX11_wasteShare_33 (by decide) rfl (fun c11 => ?_) (fun c11 => ?_)
      · refine me_aload_n (pc' := 41) (i := 0) dX11_wasteShare_40 rfl rfl rfl ?_
        refine me_iload_n (pc' := 42) (i := 1) dX11_wasteShare_41 rfl rfl rfl ?_
        refine me_bipush (pc' := 44) (v := 10) dX11_wasteShare_42 rfl kc_b10 ?_
        refine me_callV (As := [.int p0, .int 10]) (st := []) (F' := (mm_Sq q)) (G' := (mm_Sq q)) (F'' := (mm_Sq q)) (pc' := 47) dX11_wasteShare_44 rfl mfX11_ofProduct rfl lkX11_127 kd_352 rfl (mm_ltm kd_352 hN) ⟨Nat.le_of_ble_eq_true rfl, Nat.le_of_ble_eq_true rfl⟩ (Nat.le_of_ble_eq_true rfl) (fun z => z) (rX11_ofProduct (q := q) p0 10 x6.2 hN) (fun x12 e13 => Or.inl ⟨_, _, rfl, fun z => z, ?_⟩)
        show mm_E2 _ _ _ _ _ [.int x12] x6.2 _ _
        refine me_i2f (pc' := 48) dX11_wasteShare_47 rfl ?_
        refine me_iload_n (pc' := 49) (i := 2) dX11_wasteShare_48 rfl rfl rfl ?_
        refine me_i2f (pc' := 50) dX11_wasteShare_49 rfl ?_
        refine mm_guard (fun c14 => ?_)
        refine me_fdiv (pc' := 51) dX11_wasteShare_50 rfl (mm_n32_of c14) ?_
        exact me_fret dX11_wasteShare_51 rfl (fun z => z) rfl
      · refine me_fconst0 (pc' := 37) dX11_wasteShare_36 rfl ?_
        refine me_goto (tgt := 51) dX11_wasteShare_37 (by decide) ?_
        exact me_fret dX11_wasteShare_51 rfl (fun z => z) rfl
    · refine me_fconst0 (pc' := 23) dX11_wasteShare_22 rfl ?_
      exact me_fret dX11_wasteShare_23 rfl (fun z => z) rfl
  refine me_ifB_ne (pc' := 9) (tgt := 13) dX11_wasteShare_6 (by decide) rfl (fun c15 => ?_) (fun c15 => ?_)
  · refine me_iconst (pc' := 14) (v := 0) dX11_wasteShare_13 rfl kc_i0 ?_
    exact j5p 0
  · refine me_iconst (pc' := 10) (v := 1) dX11_wasteShare_9 rfl kc_i1 ?_
    refine me_goto (tgt := 14) dX11_wasteShare_10 (by decide) ?_
    exact j5p 1
def gX11_inconsistencies_L76 (h : mm_H) : Nat → Int32 → Int32 → Option (Int32 × mm_H)
  | 0, _, _ => none
  | n + 1, w6, w7 =>
    if mm_ibd 2 4200 = true then
    if w7 < (mh_I h 353 (Int32.toNatClampNeg (2))) then
    (gX11_held w7 h).bind (fun (x10 : Int32) =>
    (gX11_ofBatch w7 1 h).bind (fun (x12 : Int32) =>
    mm_jn (fun (y14 : Int32) (y15 : Int32) =>
    (some ((y15 + y14))).bind (fun (x17 : Int32) =>
    (some (w7 + 1)).bind (fun (x18 : Int32) =>
    gX11_inconsistencies_L76 h n x17 x18))) (fun (j16 : Int32 → Int32 → Option (Int32 × mm_H)) =>
    if x12 < x10 then
    j16 1 w6
    else
    j16 0 w6)))
    else
    some (w6, h) else none
def gX11_inconsistencies_L9 (h : mm_H) : Nat → Int32 → Int32 → Option (Int32 × mm_H)
  | 0, _, _ => none
  | n + 1, w2, w3 =>
    if mm_ibd 1 4200 = true then
    if w3 < (mh_I h 353 (Int32.toNatClampNeg (1))) then
    (gX11_ofProduct w3 8 h).bind (fun (x20 : Int32) =>
    (gX11_ofProduct w3 9 h).bind (fun (x22 : Int32) =>
    (gX11_ofProduct w3 10 h).bind (fun (x24 : Int32) =>
    (gX11_ofProduct w3 11 h).bind (fun (x26 : Int32) =>
    (some ((((x20 - x22) - x24) + x26))).bind (fun (x28 : Int32) =>
    (gX11_stock w3 h).bind (fun (x29 : Int32) =>
    mm_jn (fun (y31 : Int32) (y32 : Int32) =>
    (some ((y32 + y31))).bind (fun (x34 : Int32) =>
    (some (w3 + 1)).bind (fun (x35 : Int32) =>
    gX11_inconsistencies_L9 h n x34 x35))) (fun (j33 : Int32 → Int32 → Option (Int32 × mm_H)) =>
    if x28 = x29 then
    j33 0 w2
    else
    j33 1 w2)))))))
    else
    gX11_inconsistencies_L76 h mm_F w2 0 else none
def gX11_inconsistencies (h : mm_H) : Option (Int32 × mm_H) :=
(some (ms_I h 352 9 0)).bind (fun (h1 : mm_H) =>
gX11_inconsistencies_L9 h1 mm_F 0 0)
theorem rX11_inconsistencies_L76 {q : Nat × Nat}    (h : mm_H)  (hN : 358 ≤ q.1) : ∀ (n : Nat) (w6 : Int32) (w7 : Int32), mm_E2 (mm_Sq q) (mm_Sq q) mX11_inconsistencies 76 [some (.ref 352), some (.int w6), some (.int w7), none] [] h (gX11_inconsistencies_L76 h n w6 w7) lf_ie := by
  intro n
  induction n with
  | zero =>
    intro w6 w7
    exact mm_none
  | succ n ih =>
    intro w6 w7
    rw [gX11_inconsistencies_L76]
    refine me_iload_n (pc' := 77) (i := 2) dX11_inconsistencies_76 rfl rfl rfl ?_
    refine me_aload_n (pc' := 78) (i := 0) dX11_inconsistencies_77 rfl rfl rfl ?_
    refine me_getR (pc' := 81) (q' := 353) dX11_inconsistencies_78 rfl fkX11_13 kd_352 (mm_ltm kd_352 hN) rfl (mrX11_0 hN) ?_
    refine me_iconst (pc' := 82) (v := 2) dX11_inconsistencies_81 rfl kc_i2 ?_
    refine mm_guard (fun c8 => ?_)
    refine me_iald (pc' := 83) dX11_inconsistencies_82 rfl kd_353 (mm_ltm kd_353 hN) (mm_ibd_of c8) ?_
    refine me_icmp_ge (pc' := 86) (tgt := 114) dX11_inconsistencies_83 (by decide) rfl (fun c9 => ?_) (fun c9 => ?_)
    · refine me_iload_n (pc' := 115) (i := 1) dX11_inconsistencies_114 rfl rfl rfl ?_
      exact me_iret dX11_inconsistencies_115 rfl (fun z => z) rfl
    · refine me_iload_n (pc' := 87) (i := 1) dX11_inconsistencies_86 rfl rfl rfl ?_
      refine me_aload_n (pc' := 88) (i := 0) dX11_inconsistencies_87 rfl rfl rfl ?_
      refine me_iload_n (pc' := 89) (i := 2) dX11_inconsistencies_88 rfl rfl rfl ?_
      refine me_callV (As := [.int w7]) (st := [.int w6]) (F' := (mm_Sq q)) (G' := (mm_Sq q)) (F'' := (mm_Sq q)) (pc' := 92) dX11_inconsistencies_89 rfl mfX11_held rfl lkX11_94 kd_352 rfl (mm_ltm kd_352 hN) ⟨Nat.le_of_ble_eq_true rfl, Nat.le_of_ble_eq_true rfl⟩ (Nat.le_of_ble_eq_true rfl) (fun z => z) (rX11_held (q := q) w7 h hN) (fun x10 e11 => Or.inl ⟨_, _, rfl, fun z => z, ?_⟩)
      show mm_E2 _ _ _ _ _ [.int x10, .int w6] h _ _
      refine me_aload_n (pc' := 93) (i := 0) dX11_inconsistencies_92 rfl rfl rfl ?_
      refine me_iload_n (pc' := 94) (i := 2) dX11_inconsistencies_93 rfl rfl rfl ?_
      refine me_iconst (pc' := 95) (v := 1) dX11_inconsistencies_94 rfl kc_i1 ?_
      refine me_callV (As := [.int w7, .int 1]) (st := [.int x10, .int w6]) (F' := (mm_Sq q)) (G' := (mm_Sq q)) (F'' := (mm_Sq q)) (pc' := 98) dX11_inconsistencies_95 rfl mfX11_ofBatch rfl lkX11_91 kd_352 rfl (mm_ltm kd_352 hN) ⟨Nat.le_of_ble_eq_true rfl, Nat.le_of_ble_eq_true rfl⟩ (Nat.le_of_ble_eq_true rfl) (fun z => z) (rX11_ofBatch (q := q) w7 1 h hN) (fun x12 e13 => Or.inl ⟨_, _, rfl, fun z => z, ?_⟩)
      show mm_E2 _ _ _ _ _ [.int x12, .int x10, .int w6] h _ _
      refine mm_jnI (fun (j169 : Int32 → Int32 → Option (Int32 × mm_H)) => ∀ (y14 : Int32) (y15 : Int32), mm_E2 (mm_Sq q) (mm_Sq q) mX11_inconsistencies 106 [some (.ref 352), none, some (.int w7), none] [.int y14, .int y15] h (j169 y14 y15) lf_ie) ?_ (fun j16 j16p => ?_)
      · intro y14 y15
        refine me_iadd (pc' := 107) dX11_inconsistencies_106 rfl ?_
        refine mm_bnd ((y15 + y14)) (fun x17 => [some (.ref 352), none, some (.int w7), none]) (fun x17 => [.int x17]) (fun _ => h) (fun x17 => ?_)
        refine me_istore_n (pc' := 108) (i := 1) (L' := [some (.ref 352), some (.int x17), some (.int w7), none]) dX11_inconsistencies_107 rfl rfl (Nat.le_of_ble_eq_true rfl) (Nat.le_of_ble_eq_true rfl) rfl ?_
        refine me_iinc (pc' := 111) (i := 2) (x := w7) (y := w7 + 1) (L' := [some (.ref 352), some (.int x17), some (.int (w7 + 1)), none]) dX11_inconsistencies_108 rfl (Nat.le_of_ble_eq_true rfl) (Nat.le_of_ble_eq_true rfl) rfl (kc_plus kc_i1) rfl ?_
        refine mm_bnd (w7 + 1) (fun x18 => [some (.ref 352), some (.int x17), some (.int x18), none]) (fun _ => []) (fun _ => h) (fun x18 => ?_)
        refine me_goto (tgt := 76) dX11_inconsistencies_111 (by decide) ?_
        exact ih x17 x18
      refine me_icmp_le (pc' := 101) (tgt := 105) dX11_inconsistencies_98 (by decide) rfl (fun c19 => ?_) (fun c19 => ?_)
      · refine me_iconst (pc' := 106) (v := 0) dX11_inconsistencies_105 rfl kc_i0 ?_
        exact mm_maskB [true, false, true, false] (j16p 0 w6)
      · refine me_iconst (pc' := 102) (v := 1) dX11_inconsistencies_101 rfl kc_i1 ?_
        refine me_goto (tgt := 106) dX11_inconsistencies_102 (by decide) ?_
        exact mm_maskB [true, false, true, false] (j16p 1 w6)
theorem rX11_inconsistencies_L9 {q : Nat × Nat}    (h : mm_H)  (hN : 358 ≤ q.1) : ∀ (n : Nat) (w2 : Int32) (w3 : Int32), mm_E2 (mm_Sq q) (mm_Sq q) mX11_inconsistencies 9 [some (.ref 352), some (.int w2), some (.int w3), none] [] h (gX11_inconsistencies_L9 h n w2 w3) lf_ie := by
  intro n
  induction n with
  | zero =>
    intro w2 w3
    exact mm_none
  | succ n ih =>
    intro w2 w3
    rw [gX11_inconsistencies_L9]
    refine me_iload_n (pc' := 10) (i := 2) dX11_inconsistencies_9 rfl rfl rfl ?_
    refine me_aload_n (pc' := 11) (i := 0) dX11_inconsistencies_10 rfl rfl rfl ?_
    refine me_getR (pc' := 14) (q' := 353) dX11_inconsistencies_11 rfl fkX11_13 kd_352 (mm_ltm kd_352 hN) rfl (mrX11_0 hN) ?_
    refine me_iconst (pc' := 15) (v := 1) dX11_inconsistencies_14 rfl kc_i1 ?_
    refine mm_guard (fun c4 => ?_)
    refine me_iald (pc' := 16) dX11_inconsistencies_15 rfl kd_353 (mm_ltm kd_353 hN) (mm_ibd_of c4) ?_
    refine me_icmp_ge (pc' := 19) (tgt := 74) dX11_inconsistencies_16 (by decide) rfl (fun c5 => ?_) (fun c5 => ?_)
    · refine me_iconst (pc' := 75) (v := 0) dX11_inconsistencies_74 rfl kc_i0 ?_
      refine me_istore_n (pc' := 76) (i := 2) (L' := [some (.ref 352), some (.int w2), some (.int 0), none]) dX11_inconsistencies_75 rfl rfl (Nat.le_of_ble_eq_true rfl) (Nat.le_of_ble_eq_true rfl) rfl ?_
      exact rX11_inconsistencies_L76 (q := q) h hN mm_F w2 0
    · refine me_aload_n (pc' := 20) (i := 0) dX11_inconsistencies_19 rfl rfl rfl ?_
      refine me_iload_n (pc' := 21) (i := 2) dX11_inconsistencies_20 rfl rfl rfl ?_
      refine me_bipush (pc' := 23) (v := 8) dX11_inconsistencies_21 rfl kc_b8 ?_
      refine me_callV (As := [.int w3, .int 8]) (st := []) (F' := (mm_Sq q)) (G' := (mm_Sq q)) (F'' := (mm_Sq q)) (pc' := 26) dX11_inconsistencies_23 rfl mfX11_ofProduct rfl lkX11_127 kd_352 rfl (mm_ltm kd_352 hN) ⟨Nat.le_of_ble_eq_true rfl, Nat.le_of_ble_eq_true rfl⟩ (Nat.le_of_ble_eq_true rfl) (fun z => z) (rX11_ofProduct (q := q) w3 8 h hN) (fun x20 e21 => Or.inl ⟨_, _, rfl, fun z => z, ?_⟩)
      show mm_E2 _ _ _ _ _ [.int x20] h _ _
      refine me_aload_n (pc' := 27) (i := 0) dX11_inconsistencies_26 rfl rfl rfl ?_
      refine me_iload_n (pc' := 28) (i := 2) dX11_inconsistencies_27 rfl rfl rfl ?_
      refine me_bipush (pc' := 30) (v := 9) dX11_inconsistencies_28 rfl kc_b9 ?_
      refine me_callV (As := [.int w3, .int 9]) (st := [.int x20]) (F' := (mm_Sq q)) (G' := (mm_Sq q)) (F'' := (mm_Sq q)) (pc' := 33) dX11_inconsistencies_30 rfl mfX11_ofProduct rfl lkX11_127 kd_352 rfl (mm_ltm kd_352 hN) ⟨Nat.le_of_ble_eq_true rfl, Nat.le_of_ble_eq_true rfl⟩ (Nat.le_of_ble_eq_true rfl) (fun z => z) (rX11_ofProduct (q := q) w3 9 h hN) (fun x22 e23 => Or.inl ⟨_, _, rfl, fun z => z, ?_⟩)
      show mm_E2 _ _ _ _ _ [.int x22, .int x20] h _ _
      refine me_isub (pc' := 34) dX11_inconsistencies_33 rfl ?_
      refine me_aload_n (pc' := 35) (i := 0) dX11_inconsistencies_34 rfl rfl rfl ?_
      refine me_iload_n (pc' := 36) (i := 2) dX11_inconsistencies_35 rfl rfl rfl ?_
      refine me_bipush (pc' := 38) (v := 10) dX11_inconsistencies_36 rfl kc_b10 ?_
      refine me_callV (As := [.int w3, .int 10]) (st := [.int (x20 - x22)]) (F' := (mm_Sq q)) (G' := (mm_Sq q)) (F'' := (mm_Sq q)) (pc' := 41) dX11_inconsistencies_38 rfl mfX11_ofProduct rfl lkX11_127 kd_352 rfl (mm_ltm kd_352 hN) ⟨Nat.le_of_ble_eq_true rfl, Nat.le_of_ble_eq_true rfl⟩ (Nat.le_of_ble_eq_true rfl) (fun z => z) (rX11_ofProduct (q := q) w3 10 h hN) (fun x24 e25 => Or.inl ⟨_, _, rfl, fun z => z, ?_⟩)
      show mm_E2 _ _ _ _ _ [.int x24, .int (x20 - x22)] h _ _
      refine me_isub (pc' := 42) dX11_inconsistencies_41 rfl ?_
      refine me_aload_n (pc' := 43) (i := 0) dX11_inconsistencies_42 rfl rfl rfl ?_
      refine me_iload_n (pc' := 44) (i := 2) dX11_inconsistencies_43 rfl rfl rfl ?_
      refine me_bipush (pc' := 46) (v := 11) dX11_inconsistencies_44 rfl kc_b11 ?_
      refine me_callV (As := [.int w3, .int 11]) (st := [.int ((x20 - x22) - x24)]) (F' := (mm_Sq q)) (G' := (mm_Sq q)) (F'' := (mm_Sq q)) (pc' := 49) dX11_inconsistencies_46 rfl mfX11_ofProduct rfl lkX11_127 kd_352 rfl (mm_ltm kd_352 hN) ⟨Nat.le_of_ble_eq_true rfl, Nat.le_of_ble_eq_true rfl⟩ (Nat.le_of_ble_eq_true rfl) (fun z => z) (rX11_ofProduct (q := q) w3 11 h hN) (fun x26 e27 => Or.inl ⟨_, _, rfl, fun z => z, ?_⟩)
      show mm_E2 _ _ _ _ _ [.int x26, .int ((x20 - x22) - x24)] h _ _
      refine me_iadd (pc' := 50) dX11_inconsistencies_49 rfl ?_
      refine mm_bnd ((((x20 - x22) - x24) + x26)) (fun x28 => [some (.ref 352), some (.int w2), some (.int w3), none]) (fun x28 => [.int x28]) (fun _ => h) (fun x28 => ?_)
      refine me_istore_n (pc' := 51) (i := 3) (L' := [some (.ref 352), some (.int w2), some (.int w3), some (.int x28)]) dX11_inconsistencies_50 rfl rfl (Nat.le_of_ble_eq_true rfl) (Nat.le_of_ble_eq_true rfl) rfl ?_
      refine me_iload_n (pc' := 52) (i := 1) dX11_inconsistencies_51 rfl rfl rfl ?_
      refine me_iload_n (pc' := 53) (i := 3) dX11_inconsistencies_52 rfl rfl rfl ?_
      refine me_aload_n (pc' := 54) (i := 0) dX11_inconsistencies_53 rfl rfl rfl ?_
      refine me_iload_n (pc' := 55) (i := 2) dX11_inconsistencies_54 rfl rfl rfl ?_
      refine me_callV (As := [.int w3]) (st := [.int x28, .int w2]) (F' := (mm_Sq q)) (G' := (mm_Sq q)) (F'' := (mm_Sq q)) (pc' := 58) dX11_inconsistencies_55 rfl mfX11_stock rfl lkX11_289 kd_352 rfl (mm_ltm kd_352 hN) ⟨Nat.le_of_ble_eq_true rfl, Nat.le_of_ble_eq_true rfl⟩ (Nat.le_of_ble_eq_true rfl) (fun z => z) (rX11_stock (q := q) w3 h hN) (fun x29 e30 => Or.inl ⟨_, _, rfl, fun z => z, ?_⟩)
      show mm_E2 _ _ _ _ _ [.int x29, .int x28, .int w2] h _ _
      refine mm_jnI (fun (j339 : Int32 → Int32 → Option (Int32 × mm_H)) => ∀ (y31 : Int32) (y32 : Int32), mm_E2 (mm_Sq q) (mm_Sq q) mX11_inconsistencies 66 [some (.ref 352), none, some (.int w3), none] [.int y31, .int y32] h (j339 y31 y32) lf_ie) ?_ (fun j33 j33p => ?_)
      · intro y31 y32
        refine me_iadd (pc' := 67) dX11_inconsistencies_66 rfl ?_
        refine mm_bnd ((y32 + y31)) (fun x34 => [some (.ref 352), none, some (.int w3), none]) (fun x34 => [.int x34]) (fun _ => h) (fun x34 => ?_)
        refine me_istore_n (pc' := 68) (i := 1) (L' := [some (.ref 352), some (.int x34), some (.int w3), none]) dX11_inconsistencies_67 rfl rfl (Nat.le_of_ble_eq_true rfl) (Nat.le_of_ble_eq_true rfl) rfl ?_
        refine me_iinc (pc' := 71) (i := 2) (x := w3) (y := w3 + 1) (L' := [some (.ref 352), some (.int x34), some (.int (w3 + 1)), none]) dX11_inconsistencies_68 rfl (Nat.le_of_ble_eq_true rfl) (Nat.le_of_ble_eq_true rfl) rfl (kc_plus kc_i1) rfl ?_
        refine mm_bnd (w3 + 1) (fun x35 => [some (.ref 352), some (.int x34), some (.int x35), none]) (fun _ => []) (fun _ => h) (fun x35 => ?_)
        refine me_goto (tgt := 9) dX11_inconsistencies_71 (by decide) ?_
        exact ih x34 x35
      refine me_icmp_ne (pc' := 61) (tgt := 65) dX11_inconsistencies_58 (by decide) rfl (fun c36 => ?_) (fun c36 => ?_)
      · refine me_iconst (pc' := 66) (v := 1) dX11_inconsistencies_65 rfl kc_i1 ?_
        exact mm_maskB [true, false, true, false] (j33p 1 w2)
      · refine me_iconst (pc' := 62) (v := 0) dX11_inconsistencies_61 rfl kc_i0 ?_
        refine me_goto (tgt := 66) dX11_inconsistencies_62 (by decide) ?_
        exact mm_maskB [true, false, true, false] (j33p 0 w2)
theorem rX11_inconsistencies {q : Nat × Nat} (h : mm_H) (hN : 358 ≤ q.1) : mm_R2 (mm_Sq q) (mm_Sq q) mX11_inconsistencies [.ref 352] h (gX11_inconsistencies h) lf_ie := by
  refine mm_body (L := [some (.ref 352), none, none, none]) rfl (by decide +kernel) (Nat.le_of_ble_eq_true rfl) rfl ?_
  unfold gX11_inconsistencies
  refine me_aload_n (pc' := 1) (i := 0) dX11_inconsistencies_0 rfl rfl rfl ?_
  refine me_iconst (pc' := 2) (v := 0) dX11_inconsistencies_1 rfl kc_i0 ?_
  refine me_putI (F' := (mm_Sq q)) (pc' := 5) dX11_inconsistencies_2 rfl fkX11_1 kd_352 (mm_ltm kd_352 hN) rfl pgX11_9 (fun z => z) ?_
  refine mm_bnd (ms_I h 352 9 0) (fun _ => [some (.ref 352), none, none, none]) (fun _ => []) (fun h1 => h1) (fun h1 => ?_)
  refine me_iconst (pc' := 6) (v := 0) dX11_inconsistencies_5 rfl kc_i0 ?_
  refine me_istore_n (pc' := 7) (i := 1) (L' := [some (.ref 352), some (.int 0), none, none]) dX11_inconsistencies_6 rfl rfl (Nat.le_of_ble_eq_true rfl) (Nat.le_of_ble_eq_true rfl) rfl ?_
  refine me_iconst (pc' := 8) (v := 0) dX11_inconsistencies_7 rfl kc_i0 ?_
  refine me_istore_n (pc' := 9) (i := 2) (L' := [some (.ref 352), some (.int 0), some (.int 0), none]) dX11_inconsistencies_8 rfl rfl (Nat.le_of_ble_eq_true rfl) (Nat.le_of_ble_eq_true rfl) rfl ?_
  exact rX11_inconsistencies_L9 (q := q) h1 hN mm_F 0 0
def gX11_liveDay (p0 : Int32) (p1 : Int32) (h : mm_H) : Option (Bool × mm_H) :=
(gX11_writeOff h).bind (fun (x1 : (Int32 × mm_H)) =>
(gX11_canIssue p0 p1 x1.2).bind (fun (x3 : Bool) =>
if mm_ibd 0 4200 = true then
(gX11_takeOut p0 p1 ((mh_I x1.2 353 (Int32.toNatClampNeg (0)))) x1.2).bind (fun (x6 : (Int32 × mm_H)) =>
if mm_ibd 0 4200 = true then
if mm_ibd 0 4200 = true then
(some (ms_I x6.2 353 (Int32.toNatClampNeg (0)) (((mh_I x6.2 353 (Int32.toNatClampNeg (0))) + 1)))).bind (fun (h10 : mm_H) =>
some (x3, h10)) else none else none) else none))
theorem rX11_liveDay {q : Nat × Nat} (p0 : Int32) (p1 : Int32) (h : mm_H) (hN : 358 ≤ q.1) : mm_R2 (mm_Sq q) (mm_Sq q) mX11_liveDay [.ref 352, .int p0, .int p1] h (gX11_liveDay p0 p1 h) lf_ze := by
  refine mm_body (L := [some (.ref 352), some (.int p0), some (.int p1), none]) rfl (by decide +kernel) (Nat.le_of_ble_eq_true rfl) rfl ?_
  unfold gX11_liveDay
  refine me_aload_n (pc' := 1) (i := 0) dX11_liveDay_0 rfl rfl rfl ?_
  refine me_callV (As := []) (st := []) (F' := (mm_Sq q)) (G' := (mm_Sq q)) (F'' := (mm_Sq q)) (pc' := 4) dX11_liveDay_1 rfl mfX11_writeOff rfl lkX11_262 kd_352 rfl (mm_ltm kd_352 hN) ⟨Nat.le_of_ble_eq_true rfl, Nat.le_of_ble_eq_true rfl⟩ (Nat.le_of_ble_eq_true rfl) (fun z => z) (rX11_writeOff (q := q) h hN) (fun x1 e2 => Or.inl ⟨_, _, rfl, fun z => z, ?_⟩)
  show mm_E2 _ _ _ _ _ [.int x1.1] x1.2 _ _
  refine me_pop (pc' := 5) dX11_liveDay_4 rfl rfl ?_
  refine me_aload_n (pc' := 6) (i := 0) dX11_liveDay_5 rfl rfl rfl ?_
  refine me_iload_n (pc' := 7) (i := 1) dX11_liveDay_6 rfl rfl rfl ?_
  refine me_iload_n (pc' := 8) (i := 2) dX11_liveDay_7 rfl rfl rfl ?_
  refine me_callV (As := [.int p0, .int p1]) (st := []) (F' := (mm_Sq q)) (G' := (mm_Sq q)) (F'' := (mm_Sq q)) (pc' := 11) dX11_liveDay_8 rfl mfX11_canIssue rfl lkX11_229 kd_352 rfl (mm_ltm kd_352 hN) ⟨Nat.le_of_ble_eq_true rfl, Nat.le_of_ble_eq_true rfl⟩ (Nat.le_of_ble_eq_true rfl) (fun z => z) (rX11_canIssue (q := q) p0 p1 x1.2 hN) (fun x3 e4 => Or.inl ⟨_, _, rfl, fun z => z, ?_⟩)
  show mm_E2 _ _ _ _ _ [.int (mx_bi x3)] x1.2 _ _
  refine me_istore_n (pc' := 12) (i := 3) (L' := [some (.ref 352), some (.int p0), some (.int p1), some (.int (mx_bi x3))]) dX11_liveDay_11 rfl rfl (Nat.le_of_ble_eq_true rfl) (Nat.le_of_ble_eq_true rfl) rfl ?_
  refine me_aload_n (pc' := 13) (i := 0) dX11_liveDay_12 rfl rfl rfl ?_
  refine me_iload_n (pc' := 14) (i := 1) dX11_liveDay_13 rfl rfl rfl ?_
  refine me_iload_n (pc' := 15) (i := 2) dX11_liveDay_14 rfl rfl rfl ?_
  refine me_aload_n (pc' := 16) (i := 0) dX11_liveDay_15 rfl rfl rfl ?_
  refine me_getR (pc' := 19) (q' := 353) dX11_liveDay_16 rfl fkX11_13 kd_352 (mm_ltm kd_352 hN) rfl (mrX11_0 hN) ?_
  refine me_iconst (pc' := 20) (v := 0) dX11_liveDay_19 rfl kc_i0 ?_
  refine mm_guard (fun c5 => ?_)
  refine me_iald (pc' := 21) dX11_liveDay_20 rfl kd_353 (mm_ltm kd_353 hN) (mm_ibd_of c5) ?_
  refine me_callV (As := [.int p0, .int p1, .int (mh_I x1.2 353 (Int32.toNatClampNeg (0)))]) (st := []) (F' := (mm_Sq q)) (G' := (mm_Sq q)) (F'' := (mm_Sq q)) (pc' := 24) dX11_liveDay_21 rfl mfX11_takeOut rfl lkX11_244 kd_352 rfl (mm_ltm kd_352 hN) ⟨Nat.le_of_ble_eq_true rfl, Nat.le_of_ble_eq_true rfl⟩ (Nat.le_of_ble_eq_true rfl) (fun z => z) (rX11_takeOut (q := q) p0 p1 ((mh_I x1.2 353 (Int32.toNatClampNeg (0)))) x1.2 hN) (fun x6 e7 => Or.inl ⟨_, _, rfl, fun z => z, ?_⟩)
  show mm_E2 _ _ _ _ _ [.int x6.1] x6.2 _ _
  refine me_pop (pc' := 25) dX11_liveDay_24 rfl rfl ?_
  refine me_aload_n (pc' := 26) (i := 0) dX11_liveDay_25 rfl rfl rfl ?_
  refine me_getR (pc' := 29) (q' := 353) dX11_liveDay_26 rfl fkX11_13 kd_352 (mm_ltm kd_352 hN) rfl (mrX11_0 hN) ?_
  refine me_iconst (pc' := 30) (v := 0) dX11_liveDay_29 rfl kc_i0 ?_
  refine me_dup2 (pc' := 31) dX11_liveDay_30 rfl rfl rfl ?_
  refine mm_guard (fun c8 => ?_)
  refine me_iald (pc' := 32) dX11_liveDay_31 rfl kd_353 (mm_ltm kd_353 hN) (mm_ibd_of c8) ?_
  refine me_iconst (pc' := 33) (v := 1) dX11_liveDay_32 rfl kc_i1 ?_
  refine me_iadd (pc' := 34) dX11_liveDay_33 rfl ?_
  refine mm_guard (fun c9 => ?_)
  refine me_iast (F' := (mm_Sq q)) (pc' := 35) dX11_liveDay_34 rfl kd_353 (mm_ltm kd_353 hN) (mm_ibd_of c9) (fun z => z) ?_
  refine mm_bnd (ms_I x6.2 353 (Int32.toNatClampNeg (0)) (((mh_I x6.2 353 (Int32.toNatClampNeg (0))) + 1))) (fun _ => [some (.ref 352), some (.int p0), some (.int p1), some (.int (mx_bi x3))]) (fun _ => []) (fun h10 => h10) (fun h10 => ?_)
  refine me_iload_n (pc' := 36) (i := 3) dX11_liveDay_35 rfl rfl rfl ?_
  exact me_zret (b := x3) dX11_liveDay_36 rfl (fun z => z) rfl
def gX11_daysUntilShortage_L48 (u17 : Int32) (u18 : Int32) : Nat → Int32 → mm_H → Option (Int32 × mm_H)
  | 0, _, _ => none
  | n + 1, w19, h20 =>
    mm_jn (fun (h21 : mm_H) =>
    (gX11_copyBlock 9 0 h21).bind (fun (h23 : mm_H) =>
    some (w19, h23))) (fun (j22 : mm_H → Option (Int32 × mm_H)) =>
    if w19 < 365 then
    (gX11_liveDay u17 u18 h20).bind (fun (x26 : (Bool × mm_H)) =>
    if x26.1 = true then
    (some (w19 + 1)).bind (fun (x29 : Int32) =>
    gX11_daysUntilShortage_L48 u17 u18 n x29 x26.2)
    else
    j22 x26.2)
    else
    j22 h20)
def gX11_daysUntilShortage (p0 : Int32) (p1 : Int32) (h : mm_H) : Option (Int32 × mm_H) :=
(gX11_isProduct p0 h).bind (fun (x1 : Bool) =>
mm_jn (fun (y3 : Int32) =>
(gX11_in p1 1 999 h).bind (fun (x6 : Bool) =>
mm_jn (fun (y8 : Int32) (y9 : Int32) =>
(gX11_fails y9 y8 0 h).bind (fun (x12 : (Bool × mm_H)) =>
if x12.1 = true then
some (0, x12.2)
else
(gX11_copyBlock 0 9 x12.2).bind (fun (h15 : mm_H) =>
gX11_daysUntilShortage_L48 p0 p1 mm_F 0 h15))) (fun (j11 : Int32 → Int32 → Option (Int32 × mm_H)) =>
if x6 = true then
j11 0 y3
else
j11 1 y3))) (fun (j5 : Int32 → Option (Int32 × mm_H)) =>
if x1 = true then
j5 0
else
j5 1))
theorem rX11_daysUntilShortage_L48 {q : Nat × Nat}  (u17 : Int32) (u18 : Int32)    (hN : 358 ≤ q.1) : ∀ (n : Nat) (w19 : Int32) (h20 : mm_H), mm_E2 (mm_Sq q) (mm_Sq q) mX11_daysUntilShortage 48 [some (.ref 352), some (.int u17), some (.int u18), some (.int w19)] [] h20 (gX11_daysUntilShortage_L48 u17 u18  n w19 h20) lf_ie := by
  intro n
  induction n with
  | zero =>
    intro w19 h20
    exact mm_none
  | succ n ih =>
    intro w19 h20
    rw [gX11_daysUntilShortage_L48]
    refine me_iload_n (pc' := 49) (i := 3) dX11_daysUntilShortage_48 rfl rfl rfl ?_
    refine me_sipush (pc' := 52) (v := 365) dX11_daysUntilShortage_49 rfl kc_s365 ?_
    refine mm_jnI (fun (j229 : mm_H → Option (Int32 × mm_H)) => ∀ (h21 : mm_H), mm_E2 (mm_Sq q) (mm_Sq q) mX11_daysUntilShortage 70 [some (.ref 352), none, none, some (.int w19)] [] h21 (j229 h21) lf_ie) ?_ (fun j22 j22p => ?_)
    · intro h21
      refine me_aload_n (pc' := 71) (i := 0) dX11_daysUntilShortage_70 rfl rfl rfl ?_
      refine me_bipush (pc' := 73) (v := 9) dX11_daysUntilShortage_71 rfl kc_b9 ?_
      refine me_iconst (pc' := 74) (v := 0) dX11_daysUntilShortage_73 rfl kc_i0 ?_
      refine me_callV (As := [.int 9, .int 0]) (st := []) (F' := (mm_Sq q)) (G' := (mm_Sq q)) (F'' := (mm_Sq q)) (pc' := 77) dX11_daysUntilShortage_74 rfl mfX11_copyBlock rfl lkX11_79 kd_352 rfl (mm_ltm kd_352 hN) ⟨Nat.le_of_ble_eq_true rfl, Nat.le_of_ble_eq_true rfl⟩ (Nat.le_of_ble_eq_true rfl) (fun z => z) (rX11_copyBlock (q := q) 9 0 h21 hN) (fun h23 e24 => Or.inl ⟨_, _, rfl, fun z => z, ?_⟩)
      show mm_E2 _ _ _ _ _ [] h23 _ _
      refine me_iload_n (pc' := 78) (i := 3) dX11_daysUntilShortage_77 rfl rfl rfl ?_
      exact me_iret dX11_daysUntilShortage_78 rfl (fun z => z) rfl
    refine me_icmp_ge (pc' := 55) (tgt := 70) dX11_daysUntilShortage_52 (by decide) rfl (fun c25 => ?_) (fun c25 => ?_)
    · exact mm_maskB [true, false, false, true] (j22p h20)
    · refine me_aload_n (pc' := 56) (i := 0) dX11_daysUntilShortage_55 rfl rfl rfl ?_
      refine me_iload_n (pc' := 57) (i := 1) dX11_daysUntilShortage_56 rfl rfl rfl ?_
      refine me_iload_n (pc' := 58) (i := 2) dX11_daysUntilShortage_57 rfl rfl rfl ?_
      refine me_callV (As := [.int u17, .int u18]) (st := []) (F' := (mm_Sq q)) (G' := (mm_Sq q)) (F'' := (mm_Sq q)) (pc' := 61) dX11_daysUntilShortage_58 rfl mfX11_liveDay rfl lkX11_310 kd_352 rfl (mm_ltm kd_352 hN) ⟨Nat.le_of_ble_eq_true rfl, Nat.le_of_ble_eq_true rfl⟩ (Nat.le_of_ble_eq_true rfl) (fun z => z) (rX11_liveDay (q := q) u17 u18 h20 hN) (fun x26 e27 => Or.inl ⟨_, _, rfl, fun z => z, ?_⟩)
      show mm_E2 _ _ _ _ _ [.int (mx_bi x26.1)] x26.2 _ _
      refine me_ifB_eq (pc' := 64) (tgt := 70) dX11_daysUntilShortage_61 (by decide) rfl (fun c28 => ?_) (fun c28 => ?_)
      · exact mm_maskB [true, false, false, true] (j22p x26.2)
      · refine me_iinc (pc' := 67) (i := 3) (x := w19) (y := w19 + 1) (L' := [some (.ref 352), some (.int u17), some (.int u18), some (.int (w19 + 1))]) dX11_daysUntilShortage_64 rfl (Nat.le_of_ble_eq_true rfl) (Nat.le_of_ble_eq_true rfl) rfl (kc_plus kc_i1) rfl ?_
        refine mm_bnd (w19 + 1) (fun x29 => [some (.ref 352), some (.int u17), some (.int u18), some (.int x29)]) (fun _ => []) (fun _ => x26.2) (fun x29 => ?_)
        refine me_goto (tgt := 48) dX11_daysUntilShortage_67 (by decide) ?_
        exact ih x29 x26.2
theorem rX11_daysUntilShortage {q : Nat × Nat} (p0 : Int32) (p1 : Int32) (h : mm_H) (hN : 358 ≤ q.1) : mm_R2 (mm_Sq q) (mm_Sq q) mX11_daysUntilShortage [.ref 352, .int p0, .int p1] h (gX11_daysUntilShortage p0 p1 h) lf_ie := by
  refine mm_body (L := [some (.ref 352), some (.int p0), some (.int p1), none]) rfl (by decide +kernel) (Nat.le_of_ble_eq_true rfl) rfl ?_
  unfold gX11_daysUntilShortage
  refine me_aload_n (pc' := 1) (i := 0) dX11_daysUntilShortage_0 rfl rfl rfl ?_
  refine me_aload_n (pc' := 2) (i := 0) dX11_daysUntilShortage_1 rfl rfl rfl ?_
  refine me_iload_n (pc' := 3) (i := 1) dX11_daysUntilShortage_2 rfl rfl rfl ?_
  refine me_callV (As := [.int p0]) (st := [.ref 352]) (F' := (mm_Sq q)) (G' := (mm_Sq q)) (F'' := (mm_Sq q)) (pc' := 6) dX11_daysUntilShortage_3 rfl mfX11_isProduct rfl lkX11_283 kd_352 rfl (mm_ltm kd_352 hN) ⟨Nat.le_of_ble_eq_true rfl, Nat.le_of_ble_eq_true rfl⟩ (Nat.le_of_ble_eq_true rfl) (fun z => z) (rX11_isProduct (q := q) p0 h hN) (fun x1 e2 => Or.inl ⟨_, _, rfl, fun z => z, ?_⟩)
  show mm_E2 _ _ _ _ _ [.int (mx_bi x1), .ref 352] h _ _
  refine mm_jnI (fun (j59 : Int32 → Option (Int32 × mm_H)) => ∀ (y3 : Int32), mm_E2 (mm_Sq q) (mm_Sq q) mX11_daysUntilShortage 14 [some (.ref 352), some (.int p0), some (.int p1), none] [.int y3, .ref 352] h (j59 y3) lf_ie) ?_ (fun j5 j5p => ?_)
  · intro y3
    refine me_iload_n (pc' := 15) (i := 2) dX11_daysUntilShortage_14 rfl rfl rfl ?_
    refine me_iconst (pc' := 16) (v := 1) dX11_daysUntilShortage_15 rfl kc_i1 ?_
    refine me_sipush (pc' := 19) (v := 999) dX11_daysUntilShortage_16 rfl kc_s999 ?_
    refine me_callS (As := [.int p1, .int 1, .int 999]) (st := [.int y3, .ref 352]) (F' := (mm_Sq q)) (G' := (mm_Sq q)) (F'' := (mm_Sq q)) (pc' := 22) dX11_daysUntilShortage_19 rfl mfX11_in rfl lkX11_75 ⟨Nat.le_of_ble_eq_true rfl, Nat.le_of_ble_eq_true rfl⟩ (Nat.le_of_ble_eq_true rfl) (fun z => z) (rX11_in (q := q) p1 1 999 h hN) (fun x6 e7 => Or.inl ⟨_, _, rfl, fun z => z, ?_⟩)
    show mm_E2 _ _ _ _ _ [.int (mx_bi x6), .int y3, .ref 352] h _ _
    refine mm_jnI (fun (j119 : Int32 → Int32 → Option (Int32 × mm_H)) => ∀ (y8 : Int32) (y9 : Int32), mm_E2 (mm_Sq q) (mm_Sq q) mX11_daysUntilShortage 30 [some (.ref 352), some (.int p0), some (.int p1), none] [.int y8, .int y9, .ref 352] h (j119 y8 y9) lf_ie) ?_ (fun j11 j11p => ?_)
    · intro y8 y9
      refine me_iconst (pc' := 31) (v := 0) dX11_daysUntilShortage_30 rfl kc_i0 ?_
      refine me_callV (As := [.int y9, .int y8, .int 0]) (st := []) (F' := (mm_Sq q)) (G' := (mm_Sq q)) (F'' := (mm_Sq q)) (pc' := 34) dX11_daysUntilShortage_31 rfl mfX11_fails rfl lkX11_143 kd_352 rfl (mm_ltm kd_352 hN) ⟨Nat.le_of_ble_eq_true rfl, Nat.le_of_ble_eq_true rfl⟩ (Nat.le_of_ble_eq_true rfl) (fun z => z) (rX11_fails (q := q) y9 y8 0 h hN) (fun x12 e13 => Or.inl ⟨_, _, rfl, fun z => z, ?_⟩)
      show mm_E2 _ _ _ _ _ [.int (mx_bi x12.1)] x12.2 _ _
      refine me_ifB_eq (pc' := 37) (tgt := 39) dX11_daysUntilShortage_34 (by decide) rfl (fun c14 => ?_) (fun c14 => ?_)
      · refine me_aload_n (pc' := 40) (i := 0) dX11_daysUntilShortage_39 rfl rfl rfl ?_
        refine me_iconst (pc' := 41) (v := 0) dX11_daysUntilShortage_40 rfl kc_i0 ?_
        refine me_bipush (pc' := 43) (v := 9) dX11_daysUntilShortage_41 rfl kc_b9 ?_
        refine me_callV (As := [.int 0, .int 9]) (st := []) (F' := (mm_Sq q)) (G' := (mm_Sq q)) (F'' := (mm_Sq q)) (pc' := 46) dX11_daysUntilShortage_43 rfl mfX11_copyBlock rfl lkX11_79 kd_352 rfl (mm_ltm kd_352 hN) ⟨Nat.le_of_ble_eq_true rfl, Nat.le_of_ble_eq_true rfl⟩ (Nat.le_of_ble_eq_true rfl) (fun z => z) (rX11_copyBlock (q := q) 0 9 x12.2 hN) (fun h15 e16 => Or.inl ⟨_, _, rfl, fun z => z, ?_⟩)
        show mm_E2 _ _ _ _ _ [] h15 _ _
        refine me_iconst (pc' := 47) (v := 0) dX11_daysUntilShortage_46 rfl kc_i0 ?_
        refine me_istore_n (pc' := 48) (i := 3) (L' := [some (.ref 352), some (.int p0), some (.int p1), some (.int 0)]) dX11_daysUntilShortage_47 rfl rfl (Nat.le_of_ble_eq_true rfl) (Nat.le_of_ble_eq_true rfl) rfl ?_
        exact rX11_daysUntilShortage_L48 (q := q) p0 p1 hN mm_F 0 h15
      · refine me_iconst (pc' := 38) (v := 0) dX11_daysUntilShortage_37 rfl kc_i0 ?_
        exact me_iret dX11_daysUntilShortage_38 rfl (fun z => z) rfl
    refine me_ifB_ne (pc' := 25) (tgt := 29) dX11_daysUntilShortage_22 (by decide) rfl (fun c30 => ?_) (fun c30 => ?_)
    · refine me_iconst (pc' := 30) (v := 0) dX11_daysUntilShortage_29 rfl kc_i0 ?_
      exact j11p 0 y3
    · refine me_iconst (pc' := 26) (v := 1) dX11_daysUntilShortage_25 rfl kc_i1 ?_
      refine me_goto (tgt := 30) dX11_daysUntilShortage_26 (by decide) ?_
      exact j11p 1 y3
  refine me_ifB_ne (pc' := 9) (tgt := 13) dX11_daysUntilShortage_6 (by decide) rfl (fun c31 => ?_) (fun c31 => ?_)
  · refine me_iconst (pc' := 14) (v := 0) dX11_daysUntilShortage_13 rfl kc_i0 ?_
    exact j5p 0
  · refine me_iconst (pc' := 10) (v := 1) dX11_daysUntilShortage_9 rfl kc_i1 ?_
    refine me_goto (tgt := 14) dX11_daysUntilShortage_10 (by decide) ?_
    exact j5p 1
def gX11_waste_L19 (u5 : Int32) (u6 : Int32) (u7 : Int32) (u8 : Int32) : Nat → Int32 → mm_H → Option (Int32 × mm_H)
  | 0, _, _ => none
  | n + 1, w9, h10 =>
    if w9 < u7 then
    (gX11_liveDay u5 u6 h10).bind (fun (x17 : (Bool × mm_H)) =>
    (some (w9 + 1)).bind (fun (x19 : Int32) =>
    gX11_waste_L19 u5 u6 u7 u8 n x19 x17.2))
    else
    (gX11_ofProduct u5 10 h10).bind (fun (x12 : Int32) =>
    (some ((x12 - u8))).bind (fun (x14 : Int32) =>
    (gX11_copyBlock 9 0 h10).bind (fun (h15 : mm_H) =>
    some (x14, h15))))
def gX11_waste (p0 : Int32) (p1 : Int32) (p2 : Int32) (h : mm_H) : Option (Int32 × mm_H) :=
(gX11_copyBlock 0 9 h).bind (fun (h1 : mm_H) =>
(gX11_ofProduct p0 10 h1).bind (fun (x3 : Int32) =>
gX11_waste_L19 p0 p1 p2 x3 mm_F 0 h1))
theorem rX11_waste_L19 {q : Nat × Nat}  (u5 : Int32) (u6 : Int32) (u7 : Int32) (u8 : Int32)    (hN : 358 ≤ q.1) : ∀ (n : Nat) (w9 : Int32) (h10 : mm_H), mm_E2 (mm_Sq q) (mm_Sq q) mX11_waste 19 [some (.ref 352), some (.int u5), some (.int u6), some (.int u7), some (.int u8), some (.int w9)] [] h10 (gX11_waste_L19 u5 u6 u7 u8  n w9 h10) lf_ie := by
  intro n
  induction n with
  | zero =>
    intro w9 h10
    exact mm_none
  | succ n ih =>
    intro w9 h10
    rw [gX11_waste_L19]
    refine me_iload (pc' := 21) (i := 5) dX11_waste_19 rfl rfl ?_
    refine me_iload_n (pc' := 22) (i := 3) dX11_waste_21 rfl rfl rfl ?_
    refine me_icmp_ge (pc' := 25) (tgt := 38) dX11_waste_22 (by decide) rfl (fun c11 => ?_) (fun c11 => ?_)
    · refine me_aload_n (pc' := 39) (i := 0) dX11_waste_38 rfl rfl rfl ?_
      refine me_iload_n (pc' := 40) (i := 1) dX11_waste_39 rfl rfl rfl ?_
      refine me_bipush (pc' := 42) (v := 10) dX11_waste_40 rfl kc_b10 ?_
      refine me_callV (As := [.int u5, .int 10]) (st := []) (F' := (mm_Sq q)) (G' := (mm_Sq q)) (F'' := (mm_Sq q)) (pc' := 45) dX11_waste_42 rfl mfX11_ofProduct rfl lkX11_127 kd_352 rfl (mm_ltm kd_352 hN) ⟨Nat.le_of_ble_eq_true rfl, Nat.le_of_ble_eq_true rfl⟩ (Nat.le_of_ble_eq_true rfl) (fun z => z) (rX11_ofProduct (q := q) u5 10 h10 hN) (fun x12 e13 => Or.inl ⟨_, _, rfl, fun z => z, ?_⟩)
      show mm_E2 _ _ _ _ _ [.int x12] h10 _ _
      refine me_iload (pc' := 47) (i := 4) dX11_waste_45 rfl rfl ?_
      refine me_isub (pc' := 48) dX11_waste_47 rfl ?_
      refine mm_bnd ((x12 - u8)) (fun x14 => [some (.ref 352), some (.int u5), some (.int u6), some (.int u7), some (.int u8), some (.int w9)]) (fun x14 => [.int x14]) (fun _ => h10) (fun x14 => ?_)
      refine me_istore (pc' := 50) (i := 5) (L' := [some (.ref 352), some (.int u5), some (.int u6), some (.int u7), some (.int u8), some (.int x14)]) dX11_waste_48 rfl (Nat.le_of_ble_eq_true rfl) (Nat.le_of_ble_eq_true rfl) rfl ?_
      refine me_aload_n (pc' := 51) (i := 0) dX11_waste_50 rfl rfl rfl ?_
      refine me_bipush (pc' := 53) (v := 9) dX11_waste_51 rfl kc_b9 ?_
      refine me_iconst (pc' := 54) (v := 0) dX11_waste_53 rfl kc_i0 ?_
      refine me_callV (As := [.int 9, .int 0]) (st := []) (F' := (mm_Sq q)) (G' := (mm_Sq q)) (F'' := (mm_Sq q)) (pc' := 57) dX11_waste_54 rfl mfX11_copyBlock rfl lkX11_79 kd_352 rfl (mm_ltm kd_352 hN) ⟨Nat.le_of_ble_eq_true rfl, Nat.le_of_ble_eq_true rfl⟩ (Nat.le_of_ble_eq_true rfl) (fun z => z) (rX11_copyBlock (q := q) 9 0 h10 hN) (fun h15 e16 => Or.inl ⟨_, _, rfl, fun z => z, ?_⟩)
      show mm_E2 _ _ _ _ _ [] h15 _ _
      refine me_iload (pc' := 59) (i := 5) dX11_waste_57 rfl rfl ?_
      exact me_iret dX11_waste_59 rfl (fun z => z) rfl
    · refine me_aload_n (pc' := 26) (i := 0) dX11_waste_25 rfl rfl rfl ?_
      refine me_iload_n (pc' := 27) (i := 1) dX11_waste_26 rfl rfl rfl ?_
      refine me_iload_n (pc' := 28) (i := 2) dX11_waste_27 rfl rfl rfl ?_
      refine me_callV (As := [.int u5, .int u6]) (st := []) (F' := (mm_Sq q)) (G' := (mm_Sq q)) (F'' := (mm_Sq q)) (pc' := 31) dX11_waste_28 rfl mfX11_liveDay rfl lkX11_310 kd_352 rfl (mm_ltm kd_352 hN) ⟨Nat.le_of_ble_eq_true rfl, Nat.le_of_ble_eq_true rfl⟩ (Nat.le_of_ble_eq_true rfl) (fun z => z) (rX11_liveDay (q := q) u5 u6 h10 hN) (fun x17 e18 => Or.inl ⟨_, _, rfl, fun z => z, ?_⟩)
      show mm_E2 _ _ _ _ _ [.int (mx_bi x17.1)] x17.2 _ _
      refine me_pop (pc' := 32) dX11_waste_31 rfl rfl ?_
      refine me_iinc (pc' := 35) (i := 5) (x := w9) (y := w9 + 1) (L' := [some (.ref 352), some (.int u5), some (.int u6), some (.int u7), some (.int u8), some (.int (w9 + 1))]) dX11_waste_32 rfl (Nat.le_of_ble_eq_true rfl) (Nat.le_of_ble_eq_true rfl) rfl (kc_plus kc_i1) rfl ?_
      refine mm_bnd (w9 + 1) (fun x19 => [some (.ref 352), some (.int u5), some (.int u6), some (.int u7), some (.int u8), some (.int x19)]) (fun _ => []) (fun _ => x17.2) (fun x19 => ?_)
      refine me_goto (tgt := 19) dX11_waste_35 (by decide) ?_
      exact ih x19 x17.2
theorem rX11_waste {q : Nat × Nat} (p0 : Int32) (p1 : Int32) (p2 : Int32) (h : mm_H) (hN : 358 ≤ q.1) : mm_R2 (mm_Sq q) (mm_Sq q) mX11_waste [.ref 352, .int p0, .int p1, .int p2] h (gX11_waste p0 p1 p2 h) lf_ie := by
  refine mm_body (L := [some (.ref 352), some (.int p0), some (.int p1), some (.int p2), none, none]) rfl (by decide +kernel) (Nat.le_of_ble_eq_true rfl) rfl ?_
  unfold gX11_waste
  refine me_aload_n (pc' := 1) (i := 0) dX11_waste_0 rfl rfl rfl ?_
  refine me_iconst (pc' := 2) (v := 0) dX11_waste_1 rfl kc_i0 ?_
  refine me_bipush (pc' := 4) (v := 9) dX11_waste_2 rfl kc_b9 ?_
  refine me_callV (As := [.int 0, .int 9]) (st := []) (F' := (mm_Sq q)) (G' := (mm_Sq q)) (F'' := (mm_Sq q)) (pc' := 7) dX11_waste_4 rfl mfX11_copyBlock rfl lkX11_79 kd_352 rfl (mm_ltm kd_352 hN) ⟨Nat.le_of_ble_eq_true rfl, Nat.le_of_ble_eq_true rfl⟩ (Nat.le_of_ble_eq_true rfl) (fun z => z) (rX11_copyBlock (q := q) 0 9 h hN) (fun h1 e2 => Or.inl ⟨_, _, rfl, fun z => z, ?_⟩)
  show mm_E2 _ _ _ _ _ [] h1 _ _
  refine me_aload_n (pc' := 8) (i := 0) dX11_waste_7 rfl rfl rfl ?_
  refine me_iload_n (pc' := 9) (i := 1) dX11_waste_8 rfl rfl rfl ?_
  refine me_bipush (pc' := 11) (v := 10) dX11_waste_9 rfl kc_b10 ?_
  refine me_callV (As := [.int p0, .int 10]) (st := []) (F' := (mm_Sq q)) (G' := (mm_Sq q)) (F'' := (mm_Sq q)) (pc' := 14) dX11_waste_11 rfl mfX11_ofProduct rfl lkX11_127 kd_352 rfl (mm_ltm kd_352 hN) ⟨Nat.le_of_ble_eq_true rfl, Nat.le_of_ble_eq_true rfl⟩ (Nat.le_of_ble_eq_true rfl) (fun z => z) (rX11_ofProduct (q := q) p0 10 h1 hN) (fun x3 e4 => Or.inl ⟨_, _, rfl, fun z => z, ?_⟩)
  show mm_E2 _ _ _ _ _ [.int x3] h1 _ _
  refine me_istore (pc' := 16) (i := 4) (L' := [some (.ref 352), some (.int p0), some (.int p1), some (.int p2), some (.int x3), none]) dX11_waste_14 rfl (Nat.le_of_ble_eq_true rfl) (Nat.le_of_ble_eq_true rfl) rfl ?_
  refine me_iconst (pc' := 17) (v := 0) dX11_waste_16 rfl kc_i0 ?_
  refine me_istore (pc' := 19) (i := 5) (L' := [some (.ref 352), some (.int p0), some (.int p1), some (.int p2), some (.int x3), some (.int 0)]) dX11_waste_17 rfl (Nat.le_of_ble_eq_true rfl) (Nat.le_of_ble_eq_true rfl) rfl ?_
  exact rX11_waste_L19 (q := q) p0 p1 p2 x3 hN mm_F 0 h1
def gX11_wasteWithDemand (p0 : Int32) (p1 : Int32) (p2 : Int32) (h : mm_H) : Option (Int32 × mm_H) :=
(gX11_isProduct p0 h).bind (fun (x1 : Bool) =>
mm_jn (fun (y3 : Int32) =>
(gX11_in p1 0 999 h).bind (fun (x6 : Bool) =>
mm_jn (fun (y8 : Int32) (y9 : Int32) =>
(gX11_fails y9 y8 0 h).bind (fun (x12 : (Bool × mm_H)) =>
if x12.1 = true then
some (0, x12.2)
else
(gX11_waste p0 p1 p2 x12.2).bind (fun (x15 : (Int32 × mm_H)) =>
some (x15.1, x15.2)))) (fun (j11 : Int32 → Int32 → Option (Int32 × mm_H)) =>
mm_jn (fun (y17 : Int32) =>
j11 1 y17) (fun (j19 : Int32 → Option (Int32 × mm_H)) =>
if x6 = true then
(gX11_in p2 0 365 h).bind (fun (x21 : Bool) =>
if x21 = true then
j11 0 y3
else
j19 y3)
else
j19 y3)))) (fun (j5 : Int32 → Option (Int32 × mm_H)) =>
if x1 = true then
j5 0
else
j5 1))
theorem rX11_wasteWithDemand {q : Nat × Nat} (p0 : Int32) (p1 : Int32) (p2 : Int32) (h : mm_H) (hN : 358 ≤ q.1) : mm_R2 (mm_Sq q) (mm_Sq q) mX11_wasteWithDemand [.ref 352, .int p0, .int p1, .int p2] h (gX11_wasteWithDemand p0 p1 p2 h) lf_ie := by
  refine mm_body (L := [some (.ref 352), some (.int p0), some (.int p1), some (.int p2)]) rfl (by decide +kernel) (Nat.le_of_ble_eq_true rfl) rfl ?_
  unfold gX11_wasteWithDemand
  refine me_aload_n (pc' := 1) (i := 0) dX11_wasteWithDemand_0 rfl rfl rfl ?_
  refine me_aload_n (pc' := 2) (i := 0) dX11_wasteWithDemand_1 rfl rfl rfl ?_
  refine me_iload_n (pc' := 3) (i := 1) dX11_wasteWithDemand_2 rfl rfl rfl ?_
  refine me_callV (As := [.int p0]) (st := [.ref 352]) (F' := (mm_Sq q)) (G' := (mm_Sq q)) (F'' := (mm_Sq q)) (pc' := 6) dX11_wasteWithDemand_3 rfl mfX11_isProduct rfl lkX11_283 kd_352 rfl (mm_ltm kd_352 hN) ⟨Nat.le_of_ble_eq_true rfl, Nat.le_of_ble_eq_true rfl⟩ (Nat.le_of_ble_eq_true rfl) (fun z => z) (rX11_isProduct (q := q) p0 h hN) (fun x1 e2 => Or.inl ⟨_, _, rfl, fun z => z, ?_⟩)
  show mm_E2 _ _ _ _ _ [.int (mx_bi x1), .ref 352] h _ _
  refine mm_jnI (fun (j59 : Int32 → Option (Int32 × mm_H)) => ∀ (y3 : Int32), mm_E2 (mm_Sq q) (mm_Sq q) mX11_wasteWithDemand 14 [some (.ref 352), some (.int p0), some (.int p1), some (.int p2)] [.int y3, .ref 352] h (j59 y3) lf_ie) ?_ (fun j5 j5p => ?_)
  · intro y3
    refine me_iload_n (pc' := 15) (i := 2) dX11_wasteWithDemand_14 rfl rfl rfl ?_
    refine me_iconst (pc' := 16) (v := 0) dX11_wasteWithDemand_15 rfl kc_i0 ?_
    refine me_sipush (pc' := 19) (v := 999) dX11_wasteWithDemand_16 rfl kc_s999 ?_
    refine me_callS (As := [.int p1, .int 0, .int 999]) (st := [.int y3, .ref 352]) (F' := (mm_Sq q)) (G' := (mm_Sq q)) (F'' := (mm_Sq q)) (pc' := 22) dX11_wasteWithDemand_19 rfl mfX11_in rfl lkX11_75 ⟨Nat.le_of_ble_eq_true rfl, Nat.le_of_ble_eq_true rfl⟩ (Nat.le_of_ble_eq_true rfl) (fun z => z) (rX11_in (q := q) p1 0 999 h hN) (fun x6 e7 => Or.inl ⟨_, _, rfl, fun z => z, ?_⟩)
    show mm_E2 _ _ _ _ _ [.int (mx_bi x6), .int y3, .ref 352] h _ _
    refine mm_jnI (fun (j119 : Int32 → Int32 → Option (Int32 × mm_H)) => ∀ (y8 : Int32) (y9 : Int32), mm_E2 (mm_Sq q) (mm_Sq q) mX11_wasteWithDemand 41 [some (.ref 352), some (.int p0), some (.int p1), some (.int p2)] [.int y8, .int y9, .ref 352] h (j119 y8 y9) lf_ie) ?_ (fun j11 j11p => ?_)
    · intro y8 y9
      refine me_iconst (pc' := 42) (v := 0) dX11_wasteWithDemand_41 rfl kc_i0 ?_
      refine me_callV (As := [.int y9, .int y8, .int 0]) (st := []) (F' := (mm_Sq q)) (G' := (mm_Sq q)) (F'' := (mm_Sq q)) (pc' := 45) dX11_wasteWithDemand_42 rfl mfX11_fails rfl lkX11_143 kd_352 rfl (mm_ltm kd_352 hN) ⟨Nat.le_of_ble_eq_true rfl, Nat.le_of_ble_eq_true rfl⟩ (Nat.le_of_ble_eq_true rfl) (fun z => z) (rX11_fails (q := q) y9 y8 0 h hN) (fun x12 e13 => Or.inl ⟨_, _, rfl, fun z => z, ?_⟩)
      show mm_E2 _ _ _ _ _ [.int (mx_bi x12.1)] x12.2 _ _
      refine me_ifB_eq (pc' := 48) (tgt := 50) dX11_wasteWithDemand_45 (by decide) rfl (fun c14 => ?_) (fun c14 => ?_)
      · refine me_aload_n (pc' := 51) (i := 0) dX11_wasteWithDemand_50 rfl rfl rfl ?_
        refine me_iload_n (pc' := 52) (i := 1) dX11_wasteWithDemand_51 rfl rfl rfl ?_
        refine me_iload_n (pc' := 53) (i := 2) dX11_wasteWithDemand_52 rfl rfl rfl ?_
        refine me_iload_n (pc' := 54) (i := 3) dX11_wasteWithDemand_53 rfl rfl rfl ?_
        refine me_callV (As := [.int p0, .int p1, .int p2]) (st := []) (F' := (mm_Sq q)) (G' := (mm_Sq q)) (F'' := (mm_Sq q)) (pc' := 57) dX11_wasteWithDemand_54 rfl mfX11_waste rfl lkX11_313 kd_352 rfl (mm_ltm kd_352 hN) ⟨Nat.le_of_ble_eq_true rfl, Nat.le_of_ble_eq_true rfl⟩ (Nat.le_of_ble_eq_true rfl) (fun z => z) (rX11_waste (q := q) p0 p1 p2 x12.2 hN) (fun x15 e16 => Or.inl ⟨_, _, rfl, fun z => z, ?_⟩)
        show mm_E2 _ _ _ _ _ [.int x15.1] x15.2 _ _
        exact me_iret dX11_wasteWithDemand_57 rfl (fun z => z) rfl
      · refine me_iconst (pc' := 49) (v := 0) dX11_wasteWithDemand_48 rfl kc_i0 ?_
        exact me_iret dX11_wasteWithDemand_49 rfl (fun z => z) rfl
    refine mm_jnI (fun (j199 : Int32 → Option (Int32 × mm_H)) => ∀ (y17 : Int32), mm_E2 (mm_Sq q) (mm_Sq q) mX11_wasteWithDemand 36 [some (.ref 352), some (.int p0), some (.int p1), some (.int p2)] [.int y17, .ref 352] h (j199 y17) lf_ie) ?_ (fun j19 j19p => ?_)
    · intro y17
      refine me_iconst (pc' := 37) (v := 1) dX11_wasteWithDemand_36 rfl kc_i1 ?_
      refine me_goto (tgt := 41) dX11_wasteWithDemand_37 (by decide) ?_
      exact j11p 1 y17
    refine me_ifB_eq (pc' := 25) (tgt := 36) dX11_wasteWithDemand_22 (by decide) rfl (fun c20 => ?_) (fun c20 => ?_)
    · exact j19p y3
    · refine me_iload_n (pc' := 26) (i := 3) dX11_wasteWithDemand_25 rfl rfl rfl ?_
      refine me_iconst (pc' := 27) (v := 0) dX11_wasteWithDemand_26 rfl kc_i0 ?_
      refine me_sipush (pc' := 30) (v := 365) dX11_wasteWithDemand_27 rfl kc_s365 ?_
      refine me_callS (As := [.int p2, .int 0, .int 365]) (st := [.int y3, .ref 352]) (F' := (mm_Sq q)) (G' := (mm_Sq q)) (F'' := (mm_Sq q)) (pc' := 33) dX11_wasteWithDemand_30 rfl mfX11_in rfl lkX11_75 ⟨Nat.le_of_ble_eq_true rfl, Nat.le_of_ble_eq_true rfl⟩ (Nat.le_of_ble_eq_true rfl) (fun z => z) (rX11_in (q := q) p2 0 365 h hN) (fun x21 e22 => Or.inl ⟨_, _, rfl, fun z => z, ?_⟩)
      show mm_E2 _ _ _ _ _ [.int (mx_bi x21), .int y3, .ref 352] h _ _
      refine me_ifB_ne (pc' := 36) (tgt := 40) dX11_wasteWithDemand_33 (by decide) rfl (fun c23 => ?_) (fun c23 => ?_)
      · refine me_iconst (pc' := 41) (v := 0) dX11_wasteWithDemand_40 rfl kc_i0 ?_
        exact j11p 0 y3
      · exact j19p y3
  refine me_ifB_ne (pc' := 9) (tgt := 13) dX11_wasteWithDemand_6 (by decide) rfl (fun c24 => ?_) (fun c24 => ?_)
  · refine me_iconst (pc' := 14) (v := 0) dX11_wasteWithDemand_13 rfl kc_i0 ?_
    exact j5p 0
  · refine me_iconst (pc' := 10) (v := 1) dX11_wasteWithDemand_9 rfl kc_i1 ?_
    refine me_goto (tgt := 14) dX11_wasteWithDemand_10 (by decide) ?_
    exact j5p 1
def gX11_demandWithoutWaste_L46 (u12 : Int32) : Nat → Int32 → Int32 → mm_H → Option (Int32 × mm_H)
  | 0, _, _, _ => none
  | n + 1, w13, w14, h15 =>
    if w13 < w14 then
    (some (((w13 + w14) / 2))).bind (fun (x17 : Int32) =>
    (gX11_waste u12 x17 365 h15).bind (fun (x18 : (Int32 × mm_H)) =>
    mm_jn (fun (y20 : Int32) (y21 : Int32) =>
    gX11_demandWithoutWaste_L46 u12 n y20 y21 x18.2) (fun (j22 : Int32 → Int32 → Option (Int32 × mm_H)) =>
    if x18.1 = 0 then
    j22 w13 x17
    else
    (some ((x17 + 1))).bind (fun (x24 : Int32) =>
    j22 x24 w14))))
    else
    some (w13, h15)
def gX11_demandWithoutWaste (p0 : Int32) (h : mm_H) : Option (Int32 × mm_H) :=
(gX11_isProduct p0 h).bind (fun (x1 : Bool) =>
mm_jn (fun (y3 : Int32) =>
(gX11_fails y3 0 0 h).bind (fun (x6 : (Bool × mm_H)) =>
if x6.1 = true then
some (0, x6.2)
else
(gX11_waste p0 999 365 x6.2).bind (fun (x9 : (Int32 × mm_H)) =>
if 0 < x9.1 then
some ((-1), x9.2)
else
gX11_demandWithoutWaste_L46 p0 mm_F 0 999 x9.2))) (fun (j5 : Int32 → Option (Int32 × mm_H)) =>
if x1 = true then
j5 0
else
j5 1))
theorem rX11_demandWithoutWaste_L46 {q : Nat × Nat}  (u12 : Int32)    (hN : 358 ≤ q.1) : ∀ (n : Nat) (w13 : Int32) (w14 : Int32) (h15 : mm_H), mm_E2 (mm_Sq q) (mm_Sq q) mX11_demandWithoutWaste 46 [some (.ref 352), some (.int u12), some (.int w13), some (.int w14), none] [] h15 (gX11_demandWithoutWaste_L46 u12  n w13 w14 h15) lf_ie := by
  intro n
  induction n with
  | zero =>
    intro w13 w14 h15
    exact mm_none
  | succ n ih =>
    intro w13 w14 h15
    rw [gX11_demandWithoutWaste_L46]
    refine me_iload_n (pc' := 47) (i := 2) dX11_demandWithoutWaste_46 rfl rfl rfl ?_
    refine me_iload_n (pc' := 48) (i := 3) dX11_demandWithoutWaste_47 rfl rfl rfl ?_
    refine me_icmp_ge (pc' := 51) (tgt := 85) dX11_demandWithoutWaste_48 (by decide) rfl (fun c16 => ?_) (fun c16 => ?_)
    · refine me_iload_n (pc' := 86) (i := 2) dX11_demandWithoutWaste_85 rfl rfl rfl ?_
      exact me_iret dX11_demandWithoutWaste_86 rfl (fun z => z) rfl
    · refine me_iload_n (pc' := 52) (i := 2) dX11_demandWithoutWaste_51 rfl rfl rfl ?_
      refine me_iload_n (pc' := 53) (i := 3) dX11_demandWithoutWaste_52 rfl rfl rfl ?_
      refine me_iadd (pc' := 54) dX11_demandWithoutWaste_53 rfl ?_
      refine me_iconst (pc' := 55) (v := 2) dX11_demandWithoutWaste_54 rfl kc_i2 ?_
      refine me_idiv (pc' := 56) dX11_demandWithoutWaste_55 rfl kc_nz2 ?_
      refine mm_bnd (((w13 + w14) / 2)) (fun x17 => [some (.ref 352), some (.int u12), some (.int w13), some (.int w14), none]) (fun x17 => [.int x17]) (fun _ => h15) (fun x17 => ?_)
      refine me_istore (pc' := 58) (i := 4) (L' := [some (.ref 352), some (.int u12), some (.int w13), some (.int w14), some (.int x17)]) dX11_demandWithoutWaste_56 rfl (Nat.le_of_ble_eq_true rfl) (Nat.le_of_ble_eq_true rfl) rfl ?_
      refine me_aload_n (pc' := 59) (i := 0) dX11_demandWithoutWaste_58 rfl rfl rfl ?_
      refine me_iload_n (pc' := 60) (i := 1) dX11_demandWithoutWaste_59 rfl rfl rfl ?_
      refine me_iload (pc' := 62) (i := 4) dX11_demandWithoutWaste_60 rfl rfl ?_
      refine me_sipush (pc' := 65) (v := 365) dX11_demandWithoutWaste_62 rfl kc_s365 ?_
      refine me_callV (As := [.int u12, .int x17, .int 365]) (st := []) (F' := (mm_Sq q)) (G' := (mm_Sq q)) (F'' := (mm_Sq q)) (pc' := 68) dX11_demandWithoutWaste_65 rfl mfX11_waste rfl lkX11_313 kd_352 rfl (mm_ltm kd_352 hN) ⟨Nat.le_of_ble_eq_true rfl, Nat.le_of_ble_eq_true rfl⟩ (Nat.le_of_ble_eq_true rfl) (fun z => z) (rX11_waste (q := q) u12 x17 365 h15 hN) (fun x18 e19 => Or.inl ⟨_, _, rfl, fun z => z, ?_⟩)
      show mm_E2 _ _ _ _ _ [.int x18.1] x18.2 _ _
      refine mm_jnI (fun (j229 : Int32 → Int32 → Option (Int32 × mm_H)) => ∀ (y20 : Int32) (y21 : Int32), mm_E2 (mm_Sq q) (mm_Sq q) mX11_demandWithoutWaste 82 [some (.ref 352), some (.int u12), some (.int y20), some (.int y21), none] [] x18.2 (j229 y20 y21) lf_ie) ?_ (fun j22 j22p => ?_)
      · intro y20 y21
        refine me_goto (tgt := 46) dX11_demandWithoutWaste_82 (by decide) ?_
        exact ih y20 y21 x18.2
      refine me_if_ne (pc' := 71) (tgt := 77) dX11_demandWithoutWaste_68 (by decide) rfl (fun c23 => ?_) (fun c23 => ?_)
      · refine me_iload (pc' := 79) (i := 4) dX11_demandWithoutWaste_77 rfl rfl ?_
        refine me_iconst (pc' := 80) (v := 1) dX11_demandWithoutWaste_79 rfl kc_i1 ?_
        refine me_iadd (pc' := 81) dX11_demandWithoutWaste_80 rfl ?_
        refine mm_bnd ((x17 + 1)) (fun x24 => [some (.ref 352), some (.int u12), some (.int w13), some (.int w14), some (.int x17)]) (fun x24 => [.int x24]) (fun _ => x18.2) (fun x24 => ?_)
        refine me_istore_n (pc' := 82) (i := 2) (L' := [some (.ref 352), some (.int u12), some (.int x24), some (.int w14), some (.int x17)]) dX11_demandWithoutWaste_81 rfl rfl (Nat.le_of_ble_eq_true rfl) (Nat.le_of_ble_eq_true rfl) rfl ?_
        exact mm_maskB [true, true, true, true, false] (j22p x24 w14)
      · refine me_iload (pc' := 73) (i := 4) dX11_demandWithoutWaste_71 rfl rfl ?_
        refine me_istore_n (pc' := 74) (i := 3) (L' := [some (.ref 352), some (.int u12), some (.int w13), some (.int x17), some (.int x17)]) dX11_demandWithoutWaste_73 rfl rfl (Nat.le_of_ble_eq_true rfl) (Nat.le_of_ble_eq_true rfl) rfl ?_
        refine me_goto (tgt := 82) dX11_demandWithoutWaste_74 (by decide) ?_
        exact mm_maskB [true, true, true, true, false] (j22p w13 x17)
theorem rX11_demandWithoutWaste {q : Nat × Nat} (p0 : Int32) (h : mm_H) (hN : 358 ≤ q.1) : mm_R2 (mm_Sq q) (mm_Sq q) mX11_demandWithoutWaste [.ref 352, .int p0] h (gX11_demandWithoutWaste p0 h) lf_ie := by
  refine mm_body (L := [some (.ref 352), some (.int p0), none, none, none]) rfl (by decide +kernel) (Nat.le_of_ble_eq_true rfl) rfl ?_
  unfold gX11_demandWithoutWaste
  refine me_aload_n (pc' := 1) (i := 0) dX11_demandWithoutWaste_0 rfl rfl rfl ?_
  refine me_aload_n (pc' := 2) (i := 0) dX11_demandWithoutWaste_1 rfl rfl rfl ?_
  refine me_iload_n (pc' := 3) (i := 1) dX11_demandWithoutWaste_2 rfl rfl rfl ?_
  refine me_callV (As := [.int p0]) (st := [.ref 352]) (F' := (mm_Sq q)) (G' := (mm_Sq q)) (F'' := (mm_Sq q)) (pc' := 6) dX11_demandWithoutWaste_3 rfl mfX11_isProduct rfl lkX11_283 kd_352 rfl (mm_ltm kd_352 hN) ⟨Nat.le_of_ble_eq_true rfl, Nat.le_of_ble_eq_true rfl⟩ (Nat.le_of_ble_eq_true rfl) (fun z => z) (rX11_isProduct (q := q) p0 h hN) (fun x1 e2 => Or.inl ⟨_, _, rfl, fun z => z, ?_⟩)
  show mm_E2 _ _ _ _ _ [.int (mx_bi x1), .ref 352] h _ _
  refine mm_jnI (fun (j59 : Int32 → Option (Int32 × mm_H)) => ∀ (y3 : Int32), mm_E2 (mm_Sq q) (mm_Sq q) mX11_demandWithoutWaste 14 [some (.ref 352), some (.int p0), none, none, none] [.int y3, .ref 352] h (j59 y3) lf_ie) ?_ (fun j5 j5p => ?_)
  · intro y3
    refine me_iconst (pc' := 15) (v := 0) dX11_demandWithoutWaste_14 rfl kc_i0 ?_
    refine me_iconst (pc' := 16) (v := 0) dX11_demandWithoutWaste_15 rfl kc_i0 ?_
    refine me_callV (As := [.int y3, .int 0, .int 0]) (st := []) (F' := (mm_Sq q)) (G' := (mm_Sq q)) (F'' := (mm_Sq q)) (pc' := 19) dX11_demandWithoutWaste_16 rfl mfX11_fails rfl lkX11_143 kd_352 rfl (mm_ltm kd_352 hN) ⟨Nat.le_of_ble_eq_true rfl, Nat.le_of_ble_eq_true rfl⟩ (Nat.le_of_ble_eq_true rfl) (fun z => z) (rX11_fails (q := q) y3 0 0 h hN) (fun x6 e7 => Or.inl ⟨_, _, rfl, fun z => z, ?_⟩)
    show mm_E2 _ _ _ _ _ [.int (mx_bi x6.1)] x6.2 _ _
    refine me_ifB_eq (pc' := 22) (tgt := 24) dX11_demandWithoutWaste_19 (by decide) rfl (fun c8 => ?_) (fun c8 => ?_)
    · refine me_aload_n (pc' := 25) (i := 0) dX11_demandWithoutWaste_24 rfl rfl rfl ?_
      refine me_iload_n (pc' := 26) (i := 1) dX11_demandWithoutWaste_25 rfl rfl rfl ?_
      refine me_sipush (pc' := 29) (v := 999) dX11_demandWithoutWaste_26 rfl kc_s999 ?_
      refine me_sipush (pc' := 32) (v := 365) dX11_demandWithoutWaste_29 rfl kc_s365 ?_
      refine me_callV (As := [.int p0, .int 999, .int 365]) (st := []) (F' := (mm_Sq q)) (G' := (mm_Sq q)) (F'' := (mm_Sq q)) (pc' := 35) dX11_demandWithoutWaste_32 rfl mfX11_waste rfl lkX11_313 kd_352 rfl (mm_ltm kd_352 hN) ⟨Nat.le_of_ble_eq_true rfl, Nat.le_of_ble_eq_true rfl⟩ (Nat.le_of_ble_eq_true rfl) (fun z => z) (rX11_waste (q := q) p0 999 365 x6.2 hN) (fun x9 e10 => Or.inl ⟨_, _, rfl, fun z => z, ?_⟩)
      show mm_E2 _ _ _ _ _ [.int x9.1] x9.2 _ _
      refine me_if_le (pc' := 38) (tgt := 40) dX11_demandWithoutWaste_35 (by decide) rfl (fun c11 => ?_) (fun c11 => ?_)
      · refine me_iconst (pc' := 41) (v := 0) dX11_demandWithoutWaste_40 rfl kc_i0 ?_
        refine me_istore_n (pc' := 42) (i := 2) (L' := [some (.ref 352), some (.int p0), some (.int 0), none, none]) dX11_demandWithoutWaste_41 rfl rfl (Nat.le_of_ble_eq_true rfl) (Nat.le_of_ble_eq_true rfl) rfl ?_
        refine me_sipush (pc' := 45) (v := 999) dX11_demandWithoutWaste_42 rfl kc_s999 ?_
        refine me_istore_n (pc' := 46) (i := 3) (L' := [some (.ref 352), some (.int p0), some (.int 0), some (.int 999), none]) dX11_demandWithoutWaste_45 rfl rfl (Nat.le_of_ble_eq_true rfl) (Nat.le_of_ble_eq_true rfl) rfl ?_
        exact rX11_demandWithoutWaste_L46 (q := q) p0 hN mm_F 0 999 x9.2
      · refine me_iconst (pc' := 39) (v := (-1)) dX11_demandWithoutWaste_38 rfl kc_im1 ?_
        exact me_iret dX11_demandWithoutWaste_39 rfl (fun z => z) rfl
    · refine me_iconst (pc' := 23) (v := 0) dX11_demandWithoutWaste_22 rfl kc_i0 ?_
      exact me_iret dX11_demandWithoutWaste_23 rfl (fun z => z) rfl
  refine me_ifB_ne (pc' := 9) (tgt := 13) dX11_demandWithoutWaste_6 (by decide) rfl (fun c25 => ?_) (fun c25 => ?_)
  · refine me_iconst (pc' := 14) (v := 0) dX11_demandWithoutWaste_13 rfl kc_i0 ?_
    exact j5p 0
  · refine me_iconst (pc' := 10) (v := 1) dX11_demandWithoutWaste_9 rfl kc_i1 ?_
    refine me_goto (tgt := 14) dX11_demandWithoutWaste_10 (by decide) ?_
    exact j5p 1
def gX11_receive (p0 : Int32) (p1 : Int32) (p2 : Int32) (p3 : Int32) (h : mm_H) : Option (Int32 × mm_H) :=
(gX11_isProduct p0 h).bind (fun (x1 : Bool) =>
mm_jn (fun (y3 : Int32) =>
(gX11_isBatchData p1 p2 p3 h).bind (fun (x6 : Bool) =>
mm_jn (fun (y8 : Int32) (y9 : Int32) =>
if mm_ibd 2 4200 = true then
mm_jn (fun (y13 : Int32) (y14 : Int32) (y15 : Int32) =>
(gX11_fails y15 y14 y13 h).bind (fun (x18 : (Bool × mm_H)) =>
if x18.1 = true then
some (0, x18.2)
else
(gX11_remember 0 x18.2).bind (fun (h21 : mm_H) =>
(gX11_receiveIt p0 p1 p2 p3 h21).bind (fun (x23 : (Int32 × mm_H)) =>
some (x23.1, x23.2))))) (fun (j17 : Int32 → Int32 → Int32 → Option (Int32 × mm_H)) =>
if (mh_I h 353 (Int32.toNatClampNeg (2))) = 20 then
j17 1 y8 y9
else
j17 0 y8 y9) else none) (fun (j11 : Int32 → Int32 → Option (Int32 × mm_H)) =>
if x6 = true then
j11 0 y3
else
j11 1 y3))) (fun (j5 : Int32 → Option (Int32 × mm_H)) =>
if x1 = true then
j5 0
else
j5 1))
theorem rX11_receive {q : Nat × Nat} (p0 : Int32) (p1 : Int32) (p2 : Int32) (p3 : Int32) (h : mm_H) (hN : 358 ≤ q.1) : mm_R2 (mm_Sq q) (mm_Sq q) mX11_receive [.ref 352, .int p0, .int p1, .int p2, .int p3] h (gX11_receive p0 p1 p2 p3 h) lf_ie := by
  refine mm_body (L := [some (.ref 352), some (.int p0), some (.int p1), some (.int p2), some (.int p3)]) rfl (by decide +kernel) (Nat.le_of_ble_eq_true rfl) rfl ?_
  unfold gX11_receive
  refine me_aload_n (pc' := 1) (i := 0) dX11_receive_0 rfl rfl rfl ?_
  refine me_aload_n (pc' := 2) (i := 0) dX11_receive_1 rfl rfl rfl ?_
  refine me_iload_n (pc' := 3) (i := 1) dX11_receive_2 rfl rfl rfl ?_
  refine me_callV (As := [.int p0]) (st := [.ref 352]) (F' := (mm_Sq q)) (G' := (mm_Sq q)) (F'' := (mm_Sq q)) (pc' := 6) dX11_receive_3 rfl mfX11_isProduct rfl lkX11_283 kd_352 rfl (mm_ltm kd_352 hN) ⟨Nat.le_of_ble_eq_true rfl, Nat.le_of_ble_eq_true rfl⟩ (Nat.le_of_ble_eq_true rfl) (fun z => z) (rX11_isProduct (q := q) p0 h hN) (fun x1 e2 => Or.inl ⟨_, _, rfl, fun z => z, ?_⟩)
  show mm_E2 _ _ _ _ _ [.int (mx_bi x1), .ref 352] h _ _
  refine mm_jnI (fun (j59 : Int32 → Option (Int32 × mm_H)) => ∀ (y3 : Int32), mm_E2 (mm_Sq q) (mm_Sq q) mX11_receive 14 [some (.ref 352), some (.int p0), some (.int p1), some (.int p2), some (.int p3)] [.int y3, .ref 352] h (j59 y3) lf_ie) ?_ (fun j5 j5p => ?_)
  · intro y3
    refine me_iload_n (pc' := 15) (i := 2) dX11_receive_14 rfl rfl rfl ?_
    refine me_iload_n (pc' := 16) (i := 3) dX11_receive_15 rfl rfl rfl ?_
    refine me_iload (pc' := 18) (i := 4) dX11_receive_16 rfl rfl ?_
    refine me_callS (As := [.int p1, .int p2, .int p3]) (st := [.int y3, .ref 352]) (F' := (mm_Sq q)) (G' := (mm_Sq q)) (F'' := (mm_Sq q)) (pc' := 21) dX11_receive_18 rfl mfX11_isBatchData rfl lkX11_226 ⟨Nat.le_of_ble_eq_true rfl, Nat.le_of_ble_eq_true rfl⟩ (Nat.le_of_ble_eq_true rfl) (fun z => z) (rX11_isBatchData (q := q) p1 p2 p3 h hN) (fun x6 e7 => Or.inl ⟨_, _, rfl, fun z => z, ?_⟩)
    show mm_E2 _ _ _ _ _ [.int (mx_bi x6), .int y3, .ref 352] h _ _
    refine mm_jnI (fun (j119 : Int32 → Int32 → Option (Int32 × mm_H)) => ∀ (y8 : Int32) (y9 : Int32), mm_E2 (mm_Sq q) (mm_Sq q) mX11_receive 29 [some (.ref 352), some (.int p0), some (.int p1), some (.int p2), some (.int p3)] [.int y8, .int y9, .ref 352] h (j119 y8 y9) lf_ie) ?_ (fun j11 j11p => ?_)
    · intro y8 y9
      refine me_aload_n (pc' := 30) (i := 0) dX11_receive_29 rfl rfl rfl ?_
      refine me_getR (pc' := 33) (q' := 353) dX11_receive_30 rfl fkX11_13 kd_352 (mm_ltm kd_352 hN) rfl (mrX11_0 hN) ?_
      refine me_iconst (pc' := 34) (v := 2) dX11_receive_33 rfl kc_i2 ?_
      refine mm_guard (fun c12 => ?_)
      refine me_iald (pc' := 35) dX11_receive_34 rfl kd_353 (mm_ltm kd_353 hN) (mm_ibd_of c12) ?_
      refine me_bipush (pc' := 37) (v := 20) dX11_receive_35 rfl kc_b20 ?_
      refine mm_jnI (fun (j179 : Int32 → Int32 → Int32 → Option (Int32 × mm_H)) => ∀ (y13 : Int32) (y14 : Int32) (y15 : Int32), mm_E2 (mm_Sq q) (mm_Sq q) mX11_receive 45 [some (.ref 352), some (.int p0), some (.int p1), some (.int p2), some (.int p3)] [.int y13, .int y14, .int y15, .ref 352] h (j179 y13 y14 y15) lf_ie) ?_ (fun j17 j17p => ?_)
      · intro y13 y14 y15
        refine me_callV (As := [.int y15, .int y14, .int y13]) (st := []) (F' := (mm_Sq q)) (G' := (mm_Sq q)) (F'' := (mm_Sq q)) (pc' := 48) dX11_receive_45 rfl mfX11_fails rfl lkX11_143 kd_352 rfl (mm_ltm kd_352 hN) ⟨Nat.le_of_ble_eq_true rfl, Nat.le_of_ble_eq_true rfl⟩ (Nat.le_of_ble_eq_true rfl) (fun z => z) (rX11_fails (q := q) y15 y14 y13 h hN) (fun x18 e19 => Or.inl ⟨_, _, rfl, fun z => z, ?_⟩)
        show mm_E2 _ _ _ _ _ [.int (mx_bi x18.1)] x18.2 _ _
        refine me_ifB_eq (pc' := 51) (tgt := 53) dX11_receive_48 (by decide) rfl (fun c20 => ?_) (fun c20 => ?_)
        · refine me_aload_n (pc' := 54) (i := 0) dX11_receive_53 rfl rfl rfl ?_
          refine me_iconst (pc' := 55) (v := 0) dX11_receive_54 rfl kc_i0 ?_
          refine me_callV (As := [.int 0]) (st := []) (F' := (mm_Sq q)) (G' := (mm_Sq q)) (F'' := (mm_Sq q)) (pc' := 58) dX11_receive_55 rfl mfX11_remember rfl lkX11_271 kd_352 rfl (mm_ltm kd_352 hN) ⟨Nat.le_of_ble_eq_true rfl, Nat.le_of_ble_eq_true rfl⟩ (Nat.le_of_ble_eq_true rfl) (fun z => z) (rX11_remember (q := q) 0 x18.2 hN) (fun h21 e22 => Or.inl ⟨_, _, rfl, fun z => z, ?_⟩)
          show mm_E2 _ _ _ _ _ [] h21 _ _
          refine me_aload_n (pc' := 59) (i := 0) dX11_receive_58 rfl rfl rfl ?_
          refine me_iload_n (pc' := 60) (i := 1) dX11_receive_59 rfl rfl rfl ?_
          refine me_iload_n (pc' := 61) (i := 2) dX11_receive_60 rfl rfl rfl ?_
          refine me_iload_n (pc' := 62) (i := 3) dX11_receive_61 rfl rfl rfl ?_
          refine me_iload (pc' := 64) (i := 4) dX11_receive_62 rfl rfl ?_
          refine me_callV (As := [.int p0, .int p1, .int p2, .int p3]) (st := []) (F' := (mm_Sq q)) (G' := (mm_Sq q)) (F'' := (mm_Sq q)) (pc' := 67) dX11_receive_64 rfl mfX11_receiveIt rfl lkX11_175 kd_352 rfl (mm_ltm kd_352 hN) ⟨Nat.le_of_ble_eq_true rfl, Nat.le_of_ble_eq_true rfl⟩ (Nat.le_of_ble_eq_true rfl) (fun z => z) (rX11_receiveIt (q := q) p0 p1 p2 p3 h21 hN) (fun x23 e24 => Or.inl ⟨_, _, rfl, fun z => z, ?_⟩)
          show mm_E2 _ _ _ _ _ [.int x23.1] x23.2 _ _
          exact me_iret dX11_receive_67 rfl (fun z => z) rfl
        · refine me_iconst (pc' := 52) (v := 0) dX11_receive_51 rfl kc_i0 ?_
          exact me_iret dX11_receive_52 rfl (fun z => z) rfl
      refine me_icmp_ne (pc' := 40) (tgt := 44) dX11_receive_37 (by decide) rfl (fun c25 => ?_) (fun c25 => ?_)
      · refine me_iconst (pc' := 45) (v := 0) dX11_receive_44 rfl kc_i0 ?_
        exact j17p 0 y8 y9
      · refine me_iconst (pc' := 41) (v := 1) dX11_receive_40 rfl kc_i1 ?_
        refine me_goto (tgt := 45) dX11_receive_41 (by decide) ?_
        exact j17p 1 y8 y9
    refine me_ifB_ne (pc' := 24) (tgt := 28) dX11_receive_21 (by decide) rfl (fun c26 => ?_) (fun c26 => ?_)
    · refine me_iconst (pc' := 29) (v := 0) dX11_receive_28 rfl kc_i0 ?_
      exact j11p 0 y3
    · refine me_iconst (pc' := 25) (v := 1) dX11_receive_24 rfl kc_i1 ?_
      refine me_goto (tgt := 29) dX11_receive_25 (by decide) ?_
      exact j11p 1 y3
  refine me_ifB_ne (pc' := 9) (tgt := 13) dX11_receive_6 (by decide) rfl (fun c27 => ?_) (fun c27 => ?_)
  · refine me_iconst (pc' := 14) (v := 0) dX11_receive_13 rfl kc_i0 ?_
    exact j5p 0
  · refine me_iconst (pc' := 10) (v := 1) dX11_receive_9 rfl kc_i1 ?_
    refine me_goto (tgt := 14) dX11_receive_10 (by decide) ?_
    exact j5p 1
def gX11_issue (p0 : Int32) (p1 : Int32) (h : mm_H) : Option (Int32 × mm_H) :=
(gX11_isProduct p0 h).bind (fun (x1 : Bool) =>
mm_jn (fun (y3 : Int32) =>
(gX11_isProduct p0 h).bind (fun (x5 : Bool) =>
mm_jn (fun (y7 : Int32) =>
(gX11_in p1 1 9999 h).bind (fun (x10 : Bool) =>
mm_jn (fun (y12 : Int32) (y13 : Int32) =>
mm_jn (fun (y16 : Int32) (y17 : Int32) (y18 : Int32) =>
(gX11_fails y18 y17 y16 h).bind (fun (x21 : (Bool × mm_H)) =>
if x21.1 = true then
some (0, x21.2)
else
(gX11_remember 0 x21.2).bind (fun (h24 : mm_H) =>
if mm_ibd 0 4200 = true then
(gX11_takeOut p0 p1 ((mh_I h24 353 (Int32.toNatClampNeg (0)))) h24).bind (fun (x27 : (Int32 × mm_H)) =>
some (x27.1, x27.2)) else none))) (fun (j20 : Int32 → Int32 → Int32 → Option (Int32 × mm_H)) =>
mm_jn (fun (y29 : Int32) (y30 : Int32) =>
j20 0 y29 y30) (fun (j32 : Int32 → Int32 → Option (Int32 × mm_H)) =>
if y3 = 0 then
j32 y12 y13
else
(gX11_canIssue p0 p1 h).bind (fun (x34 : Bool) =>
if x34 = true then
j32 y12 y13
else
j20 1 y12 y13)))) (fun (j15 : Int32 → Int32 → Option (Int32 × mm_H)) =>
if x10 = true then
j15 0 y7
else
j15 1 y7))) (fun (j9 : Int32 → Option (Int32 × mm_H)) =>
if x5 = true then
j9 0
else
j9 1))) (fun (j4 : Int32 → Option (Int32 × mm_H)) =>
mm_jn (fun (_ : Unit) =>
j4 0) (fun (j39 : Unit → Option (Int32 × mm_H)) =>
if x1 = true then
(gX11_in p1 1 9999 h).bind (fun (x41 : Bool) =>
if x41 = true then
j4 1
else
j39 ())
else
j39 ())))
theorem rX11_issue {q : Nat × Nat} (p0 : Int32) (p1 : Int32) (h : mm_H) (hN : 358 ≤ q.1) : mm_R2 (mm_Sq q) (mm_Sq q) mX11_issue [.ref 352, .int p0, .int p1] h (gX11_issue p0 p1 h) lf_ie := by
  refine mm_body (L := [some (.ref 352), some (.int p0), some (.int p1), none]) rfl (by decide +kernel) (Nat.le_of_ble_eq_true rfl) rfl ?_
  unfold gX11_issue
  refine me_aload_n (pc' := 1) (i := 0) dX11_issue_0 rfl rfl rfl ?_
  refine me_iload_n (pc' := 2) (i := 1) dX11_issue_1 rfl rfl rfl ?_
  refine me_callV (As := [.int p0]) (st := []) (F' := (mm_Sq q)) (G' := (mm_Sq q)) (F'' := (mm_Sq q)) (pc' := 5) dX11_issue_2 rfl mfX11_isProduct rfl lkX11_283 kd_352 rfl (mm_ltm kd_352 hN) ⟨Nat.le_of_ble_eq_true rfl, Nat.le_of_ble_eq_true rfl⟩ (Nat.le_of_ble_eq_true rfl) (fun z => z) (rX11_isProduct (q := q) p0 h hN) (fun x1 e2 => Or.inl ⟨_, _, rfl, fun z => z, ?_⟩)
  show mm_E2 _ _ _ _ _ [.int (mx_bi x1)] h _ _
  refine mm_jnI (fun (j49 : Int32 → Option (Int32 × mm_H)) => ∀ (y3 : Int32), mm_E2 (mm_Sq q) (mm_Sq q) mX11_issue 24 [some (.ref 352), some (.int p0), some (.int p1), none] [.int y3] h (j49 y3) lf_ie) ?_ (fun j4 j4p => ?_)
  · intro y3
    refine me_istore_n (pc' := 25) (i := 3) (L' := [some (.ref 352), some (.int p0), some (.int p1), some (.int y3)]) dX11_issue_24 rfl rfl (Nat.le_of_ble_eq_true rfl) (Nat.le_of_ble_eq_true rfl) rfl ?_
    refine me_aload_n (pc' := 26) (i := 0) dX11_issue_25 rfl rfl rfl ?_
    refine me_aload_n (pc' := 27) (i := 0) dX11_issue_26 rfl rfl rfl ?_
    refine me_iload_n (pc' := 28) (i := 1) dX11_issue_27 rfl rfl rfl ?_
    refine me_callV (As := [.int p0]) (st := [.ref 352]) (F' := (mm_Sq q)) (G' := (mm_Sq q)) (F'' := (mm_Sq q)) (pc' := 31) dX11_issue_28 rfl mfX11_isProduct rfl lkX11_283 kd_352 rfl (mm_ltm kd_352 hN) ⟨Nat.le_of_ble_eq_true rfl, Nat.le_of_ble_eq_true rfl⟩ (Nat.le_of_ble_eq_true rfl) (fun z => z) (rX11_isProduct (q := q) p0 h hN) (fun x5 e6 => Or.inl ⟨_, _, rfl, fun z => z, ?_⟩)
    show mm_E2 _ _ _ _ _ [.int (mx_bi x5), .ref 352] h _ _
    refine mm_jnI (fun (j99 : Int32 → Option (Int32 × mm_H)) => ∀ (y7 : Int32), mm_E2 (mm_Sq q) (mm_Sq q) mX11_issue 39 [some (.ref 352), some (.int p0), some (.int p1), some (.int y3)] [.int y7, .ref 352] h (j99 y7) lf_ie) ?_ (fun j9 j9p => ?_)
    · intro y7
      refine me_iload_n (pc' := 40) (i := 2) dX11_issue_39 rfl rfl rfl ?_
      refine me_iconst (pc' := 41) (v := 1) dX11_issue_40 rfl kc_i1 ?_
      refine me_sipush (pc' := 44) (v := 9999) dX11_issue_41 rfl kc_s9999 ?_
      refine me_callS (As := [.int p1, .int 1, .int 9999]) (st := [.int y7, .ref 352]) (F' := (mm_Sq q)) (G' := (mm_Sq q)) (F'' := (mm_Sq q)) (pc' := 47) dX11_issue_44 rfl mfX11_in rfl lkX11_75 ⟨Nat.le_of_ble_eq_true rfl, Nat.le_of_ble_eq_true rfl⟩ (Nat.le_of_ble_eq_true rfl) (fun z => z) (rX11_in (q := q) p1 1 9999 h hN) (fun x10 e11 => Or.inl ⟨_, _, rfl, fun z => z, ?_⟩)
      show mm_E2 _ _ _ _ _ [.int (mx_bi x10), .int y7, .ref 352] h _ _
      refine mm_jnI (fun (j159 : Int32 → Int32 → Option (Int32 × mm_H)) => ∀ (y12 : Int32) (y13 : Int32), mm_E2 (mm_Sq q) (mm_Sq q) mX11_issue 55 [some (.ref 352), some (.int p0), some (.int p1), some (.int y3)] [.int y12, .int y13, .ref 352] h (j159 y12 y13) lf_ie) ?_ (fun j15 j15p => ?_)
      · intro y12 y13
        refine me_iload_n (pc' := 56) (i := 3) dX11_issue_55 rfl rfl rfl ?_
        refine mm_jnI (fun (j209 : Int32 → Int32 → Int32 → Option (Int32 × mm_H)) => ∀ (y16 : Int32) (y17 : Int32) (y18 : Int32), mm_E2 (mm_Sq q) (mm_Sq q) mX11_issue 73 [some (.ref 352), some (.int p0), some (.int p1), none] [.int y16, .int y17, .int y18, .ref 352] h (j209 y16 y17 y18) lf_ie) ?_ (fun j20 j20p => ?_)
        · intro y16 y17 y18
          refine me_callV (As := [.int y18, .int y17, .int y16]) (st := []) (F' := (mm_Sq q)) (G' := (mm_Sq q)) (F'' := (mm_Sq q)) (pc' := 76) dX11_issue_73 rfl mfX11_fails rfl lkX11_143 kd_352 rfl (mm_ltm kd_352 hN) ⟨Nat.le_of_ble_eq_true rfl, Nat.le_of_ble_eq_true rfl⟩ (Nat.le_of_ble_eq_true rfl) (fun z => z) (rX11_fails (q := q) y18 y17 y16 h hN) (fun x21 e22 => Or.inl ⟨_, _, rfl, fun z => z, ?_⟩)
          show mm_E2 _ _ _ _ _ [.int (mx_bi x21.1)] x21.2 _ _
          refine me_ifB_eq (pc' := 79) (tgt := 81) dX11_issue_76 (by decide) rfl (fun c23 => ?_) (fun c23 => ?_)
          · refine me_aload_n (pc' := 82) (i := 0) dX11_issue_81 rfl rfl rfl ?_
            refine me_iconst (pc' := 83) (v := 0) dX11_issue_82 rfl kc_i0 ?_
            refine me_callV (As := [.int 0]) (st := []) (F' := (mm_Sq q)) (G' := (mm_Sq q)) (F'' := (mm_Sq q)) (pc' := 86) dX11_issue_83 rfl mfX11_remember rfl lkX11_271 kd_352 rfl (mm_ltm kd_352 hN) ⟨Nat.le_of_ble_eq_true rfl, Nat.le_of_ble_eq_true rfl⟩ (Nat.le_of_ble_eq_true rfl) (fun z => z) (rX11_remember (q := q) 0 x21.2 hN) (fun h24 e25 => Or.inl ⟨_, _, rfl, fun z => z, ?_⟩)
            show mm_E2 _ _ _ _ _ [] h24 _ _
            refine me_aload_n (pc' := 87) (i := 0) dX11_issue_86 rfl rfl rfl ?_
            refine me_iload_n (pc' := 88) (i := 1) dX11_issue_87 rfl rfl rfl ?_
            refine me_iload_n (pc' := 89) (i := 2) dX11_issue_88 rfl rfl rfl ?_
            refine me_aload_n (pc' := 90) (i := 0) dX11_issue_89 rfl rfl rfl ?_
            refine me_getR (pc' := 93) (q' := 353) dX11_issue_90 rfl fkX11_13 kd_352 (mm_ltm kd_352 hN) rfl (mrX11_0 hN) ?_
            refine me_iconst (pc' := 94) (v := 0) dX11_issue_93 rfl kc_i0 ?_
            refine mm_guard (fun c26 => ?_)
            refine me_iald (pc' := 95) dX11_issue_94 rfl kd_353 (mm_ltm kd_353 hN) (mm_ibd_of c26) ?_
            refine me_callV (As := [.int p0, .int p1, .int (mh_I h24 353 (Int32.toNatClampNeg (0)))]) (st := []) (F' := (mm_Sq q)) (G' := (mm_Sq q)) (F'' := (mm_Sq q)) (pc' := 98) dX11_issue_95 rfl mfX11_takeOut rfl lkX11_244 kd_352 rfl (mm_ltm kd_352 hN) ⟨Nat.le_of_ble_eq_true rfl, Nat.le_of_ble_eq_true rfl⟩ (Nat.le_of_ble_eq_true rfl) (fun z => z) (rX11_takeOut (q := q) p0 p1 ((mh_I h24 353 (Int32.toNatClampNeg (0)))) h24 hN) (fun x27 e28 => Or.inl ⟨_, _, rfl, fun z => z, ?_⟩)
            show mm_E2 _ _ _ _ _ [.int x27.1] x27.2 _ _
            exact me_iret dX11_issue_98 rfl (fun z => z) rfl
          · refine me_iconst (pc' := 80) (v := 0) dX11_issue_79 rfl kc_i0 ?_
            exact me_iret dX11_issue_80 rfl (fun z => z) rfl
        refine mm_jnI (fun (j329 : Int32 → Int32 → Option (Int32 × mm_H)) => ∀ (y29 : Int32) (y30 : Int32), mm_E2 (mm_Sq q) (mm_Sq q) mX11_issue 72 [some (.ref 352), some (.int p0), some (.int p1), none] [.int y29, .int y30, .ref 352] h (j329 y29 y30) lf_ie) ?_ (fun j32 j32p => ?_)
        · intro y29 y30
          refine me_iconst (pc' := 73) (v := 0) dX11_issue_72 rfl kc_i0 ?_
          exact j20p 0 y29 y30
        refine me_if_eq (pc' := 59) (tgt := 72) dX11_issue_56 (by decide) rfl (fun c33 => ?_) (fun c33 => ?_)
        · exact mm_maskB [true, true, true, false] (j32p y12 y13)
        · refine me_aload_n (pc' := 60) (i := 0) dX11_issue_59 rfl rfl rfl ?_
          refine me_iload_n (pc' := 61) (i := 1) dX11_issue_60 rfl rfl rfl ?_
          refine me_iload_n (pc' := 62) (i := 2) dX11_issue_61 rfl rfl rfl ?_
          refine me_callV (As := [.int p0, .int p1]) (st := [.int y12, .int y13, .ref 352]) (F' := (mm_Sq q)) (G' := (mm_Sq q)) (F'' := (mm_Sq q)) (pc' := 65) dX11_issue_62 rfl mfX11_canIssue rfl lkX11_229 kd_352 rfl (mm_ltm kd_352 hN) ⟨Nat.le_of_ble_eq_true rfl, Nat.le_of_ble_eq_true rfl⟩ (Nat.le_of_ble_eq_true rfl) (fun z => z) (rX11_canIssue (q := q) p0 p1 h hN) (fun x34 e35 => Or.inl ⟨_, _, rfl, fun z => z, ?_⟩)
          show mm_E2 _ _ _ _ _ [.int (mx_bi x34), .int y12, .int y13, .ref 352] h _ _
          refine me_ifB_ne (pc' := 68) (tgt := 72) dX11_issue_65 (by decide) rfl (fun c36 => ?_) (fun c36 => ?_)
          · exact mm_maskB [true, true, true, false] (j32p y12 y13)
          · refine me_iconst (pc' := 69) (v := 1) dX11_issue_68 rfl kc_i1 ?_
            refine me_goto (tgt := 73) dX11_issue_69 (by decide) ?_
            exact mm_maskB [true, true, true, false] (j20p 1 y12 y13)
      refine me_ifB_ne (pc' := 50) (tgt := 54) dX11_issue_47 (by decide) rfl (fun c37 => ?_) (fun c37 => ?_)
      · refine me_iconst (pc' := 55) (v := 0) dX11_issue_54 rfl kc_i0 ?_
        exact j15p 0 y7
      · refine me_iconst (pc' := 51) (v := 1) dX11_issue_50 rfl kc_i1 ?_
        refine me_goto (tgt := 55) dX11_issue_51 (by decide) ?_
        exact j15p 1 y7
    refine me_ifB_ne (pc' := 34) (tgt := 38) dX11_issue_31 (by decide) rfl (fun c38 => ?_) (fun c38 => ?_)
    · refine me_iconst (pc' := 39) (v := 0) dX11_issue_38 rfl kc_i0 ?_
      exact j9p 0
    · refine me_iconst (pc' := 35) (v := 1) dX11_issue_34 rfl kc_i1 ?_
      refine me_goto (tgt := 39) dX11_issue_35 (by decide) ?_
      exact j9p 1
  refine mm_jnI (fun (j399 : Unit → Option (Int32 × mm_H)) => ∀ (_ : Unit), mm_E2 (mm_Sq q) (mm_Sq q) mX11_issue 23 [some (.ref 352), some (.int p0), some (.int p1), none] [] h (j399 ()) lf_ie) ?_ (fun j39 j39p => ?_)
  · intro _
    refine me_iconst (pc' := 24) (v := 0) dX11_issue_23 rfl kc_i0 ?_
    exact j4p 0
  refine me_ifB_eq (pc' := 8) (tgt := 23) dX11_issue_5 (by decide) rfl (fun c40 => ?_) (fun c40 => ?_)
  · exact j39p ()
  · refine me_iload_n (pc' := 9) (i := 2) dX11_issue_8 rfl rfl rfl ?_
    refine me_iconst (pc' := 10) (v := 1) dX11_issue_9 rfl kc_i1 ?_
    refine me_sipush (pc' := 13) (v := 9999) dX11_issue_10 rfl kc_s9999 ?_
    refine me_callS (As := [.int p1, .int 1, .int 9999]) (st := []) (F' := (mm_Sq q)) (G' := (mm_Sq q)) (F'' := (mm_Sq q)) (pc' := 16) dX11_issue_13 rfl mfX11_in rfl lkX11_75 ⟨Nat.le_of_ble_eq_true rfl, Nat.le_of_ble_eq_true rfl⟩ (Nat.le_of_ble_eq_true rfl) (fun z => z) (rX11_in (q := q) p1 1 9999 h hN) (fun x41 e42 => Or.inl ⟨_, _, rfl, fun z => z, ?_⟩)
    show mm_E2 _ _ _ _ _ [.int (mx_bi x41)] h _ _
    refine me_ifB_eq (pc' := 19) (tgt := 23) dX11_issue_16 (by decide) rfl (fun c43 => ?_) (fun c43 => ?_)
    · exact j39p ()
    · refine me_iconst (pc' := 20) (v := 1) dX11_issue_19 rfl kc_i1 ?_
      refine me_goto (tgt := 24) dX11_issue_20 (by decide) ?_
      exact j4p 1
def gX11_reserve (p0 : Int32) (p1 : Int32) (p2 : Int32) (h : mm_H) : Option (Int32 × mm_H) :=
(gX11_in p1 1 9999 h).bind (fun (x1 : Bool) =>
mm_jn (fun (y3 : Int32) =>
(gX11_isProduct p0 h).bind (fun (x5 : Bool) =>
mm_jn (fun (y7 : Int32) =>
(gX11_isProduct p0 h).bind (fun (x9 : Bool) =>
mm_jn (fun (y11 : Int32) =>
mm_jn (fun (y14 : Int32) (y15 : Int32) =>
mm_jn (fun (y18 : Int32) (y19 : Int32) (y20 : Int32) =>
(gX11_fails y20 y19 y18 h).bind (fun (x23 : (Bool × mm_H)) =>
if x23.1 = true then
some (0, x23.2)
else
(gX11_remember 0 x23.2).bind (fun (h26 : mm_H) =>
(gX11_reserveIt p0 p1 p2 h26).bind (fun (x28 : (Int32 × mm_H)) =>
some (x28.1, x28.2))))) (fun (j22 : Int32 → Int32 → Int32 → Option (Int32 × mm_H)) =>
mm_jn (fun (y30 : Int32) (y31 : Int32) =>
j22 0 y30 y31) (fun (j33 : Int32 → Int32 → Option (Int32 × mm_H)) =>
if y7 = 0 then
j33 y14 y15
else
(gX11_canReserve p0 p1 p2 h).bind (fun (x35 : Bool) =>
if x35 = true then
j33 y14 y15
else
j22 1 y14 y15)))) (fun (j17 : Int32 → Int32 → Option (Int32 × mm_H)) =>
if y3 = 0 then
j17 1 y11
else
j17 0 y11)) (fun (j13 : Int32 → Option (Int32 × mm_H)) =>
if x9 = true then
j13 0
else
j13 1))) (fun (j8 : Int32 → Option (Int32 × mm_H)) =>
mm_jn (fun (_ : Unit) =>
j8 0) (fun (j40 : Unit → Option (Int32 × mm_H)) =>
if x5 = true then
if y3 = 0 then
j40 ()
else
j8 1
else
j40 ())))) (fun (j4 : Int32 → Option (Int32 × mm_H)) =>
mm_jn (fun (_ : Unit) =>
j4 0) (fun (j43 : Unit → Option (Int32 × mm_H)) =>
if x1 = true then
if mm_ibd 0 4200 = true then
(gX11_in p2 ((mh_I h 353 (Int32.toNatClampNeg (0)))) 9999 h).bind (fun (x46 : Bool) =>
if x46 = true then
j4 1
else
j43 ()) else none
else
j43 ())))
theorem rX11_reserve {q : Nat × Nat} (p0 : Int32) (p1 : Int32) (p2 : Int32) (h : mm_H) (hN : 358 ≤ q.1) : mm_R2 (mm_Sq q) (mm_Sq q) mX11_reserve [.ref 352, .int p0, .int p1, .int p2] h (gX11_reserve p0 p1 p2 h) lf_ie := by
  refine mm_body (L := [some (.ref 352), some (.int p0), some (.int p1), some (.int p2), none, none]) rfl (by decide +kernel) (Nat.le_of_ble_eq_true rfl) rfl ?_
  unfold gX11_reserve
  refine me_iload_n (pc' := 1) (i := 2) dX11_reserve_0 rfl rfl rfl ?_
  refine me_iconst (pc' := 2) (v := 1) dX11_reserve_1 rfl kc_i1 ?_
  refine me_sipush (pc' := 5) (v := 9999) dX11_reserve_2 rfl kc_s9999 ?_
  refine me_callS (As := [.int p1, .int 1, .int 9999]) (st := []) (F' := (mm_Sq q)) (G' := (mm_Sq q)) (F'' := (mm_Sq q)) (pc' := 8) dX11_reserve_5 rfl mfX11_in rfl lkX11_75 ⟨Nat.le_of_ble_eq_true rfl, Nat.le_of_ble_eq_true rfl⟩ (Nat.le_of_ble_eq_true rfl) (fun z => z) (rX11_in (q := q) p1 1 9999 h hN) (fun x1 e2 => Or.inl ⟨_, _, rfl, fun z => z, ?_⟩)
  show mm_E2 _ _ _ _ _ [.int (mx_bi x1)] h _ _
  refine mm_jnI (fun (j49 : Int32 → Option (Int32 × mm_H)) => ∀ (y3 : Int32), mm_E2 (mm_Sq q) (mm_Sq q) mX11_reserve 32 [some (.ref 352), some (.int p0), some (.int p1), some (.int p2), none, none] [.int y3] h (j49 y3) lf_ie) ?_ (fun j4 j4p => ?_)
  · intro y3
    refine me_istore (pc' := 34) (i := 4) (L' := [some (.ref 352), some (.int p0), some (.int p1), some (.int p2), some (.int y3), none]) dX11_reserve_32 rfl (Nat.le_of_ble_eq_true rfl) (Nat.le_of_ble_eq_true rfl) rfl ?_
    refine me_aload_n (pc' := 35) (i := 0) dX11_reserve_34 rfl rfl rfl ?_
    refine me_iload_n (pc' := 36) (i := 1) dX11_reserve_35 rfl rfl rfl ?_
    refine me_callV (As := [.int p0]) (st := []) (F' := (mm_Sq q)) (G' := (mm_Sq q)) (F'' := (mm_Sq q)) (pc' := 39) dX11_reserve_36 rfl mfX11_isProduct rfl lkX11_283 kd_352 rfl (mm_ltm kd_352 hN) ⟨Nat.le_of_ble_eq_true rfl, Nat.le_of_ble_eq_true rfl⟩ (Nat.le_of_ble_eq_true rfl) (fun z => z) (rX11_isProduct (q := q) p0 h hN) (fun x5 e6 => Or.inl ⟨_, _, rfl, fun z => z, ?_⟩)
    show mm_E2 _ _ _ _ _ [.int (mx_bi x5)] h _ _
    refine mm_jnI (fun (j89 : Int32 → Option (Int32 × mm_H)) => ∀ (y7 : Int32), mm_E2 (mm_Sq q) (mm_Sq q) mX11_reserve 52 [some (.ref 352), some (.int p0), some (.int p1), some (.int p2), some (.int y3), none] [.int y7] h (j89 y7) lf_ie) ?_ (fun j8 j8p => ?_)
    · intro y7
      refine me_istore (pc' := 54) (i := 5) (L' := [some (.ref 352), some (.int p0), some (.int p1), some (.int p2), some (.int y3), some (.int y7)]) dX11_reserve_52 rfl (Nat.le_of_ble_eq_true rfl) (Nat.le_of_ble_eq_true rfl) rfl ?_
      refine me_aload_n (pc' := 55) (i := 0) dX11_reserve_54 rfl rfl rfl ?_
      refine me_aload_n (pc' := 56) (i := 0) dX11_reserve_55 rfl rfl rfl ?_
      refine me_iload_n (pc' := 57) (i := 1) dX11_reserve_56 rfl rfl rfl ?_
      refine me_callV (As := [.int p0]) (st := [.ref 352]) (F' := (mm_Sq q)) (G' := (mm_Sq q)) (F'' := (mm_Sq q)) (pc' := 60) dX11_reserve_57 rfl mfX11_isProduct rfl lkX11_283 kd_352 rfl (mm_ltm kd_352 hN) ⟨Nat.le_of_ble_eq_true rfl, Nat.le_of_ble_eq_true rfl⟩ (Nat.le_of_ble_eq_true rfl) (fun z => z) (rX11_isProduct (q := q) p0 h hN) (fun x9 e10 => Or.inl ⟨_, _, rfl, fun z => z, ?_⟩)
      show mm_E2 _ _ _ _ _ [.int (mx_bi x9), .ref 352] h _ _
      refine mm_jnI (fun (j139 : Int32 → Option (Int32 × mm_H)) => ∀ (y11 : Int32), mm_E2 (mm_Sq q) (mm_Sq q) mX11_reserve 68 [some (.ref 352), some (.int p0), some (.int p1), some (.int p2), some (.int y3), some (.int y7)] [.int y11, .ref 352] h (j139 y11) lf_ie) ?_ (fun j13 j13p => ?_)
      · intro y11
        refine me_iload (pc' := 70) (i := 4) dX11_reserve_68 rfl rfl ?_
        refine mm_jnI (fun (j179 : Int32 → Int32 → Option (Int32 × mm_H)) => ∀ (y14 : Int32) (y15 : Int32), mm_E2 (mm_Sq q) (mm_Sq q) mX11_reserve 78 [some (.ref 352), some (.int p0), some (.int p1), some (.int p2), none, some (.int y7)] [.int y14, .int y15, .ref 352] h (j179 y14 y15) lf_ie) ?_ (fun j17 j17p => ?_)
        · intro y14 y15
          refine me_iload (pc' := 80) (i := 5) dX11_reserve_78 rfl rfl ?_
          refine mm_jnI (fun (j229 : Int32 → Int32 → Int32 → Option (Int32 × mm_H)) => ∀ (y18 : Int32) (y19 : Int32) (y20 : Int32), mm_E2 (mm_Sq q) (mm_Sq q) mX11_reserve 98 [some (.ref 352), some (.int p0), some (.int p1), some (.int p2), none, none] [.int y18, .int y19, .int y20, .ref 352] h (j229 y18 y19 y20) lf_ie) ?_ (fun j22 j22p => ?_)
          · intro y18 y19 y20
            refine me_callV (As := [.int y20, .int y19, .int y18]) (st := []) (F' := (mm_Sq q)) (G' := (mm_Sq q)) (F'' := (mm_Sq q)) (pc' := 101) dX11_reserve_98 rfl mfX11_fails rfl lkX11_143 kd_352 rfl (mm_ltm kd_352 hN) ⟨Nat.le_of_ble_eq_true rfl, Nat.le_of_ble_eq_true rfl⟩ (Nat.le_of_ble_eq_true rfl) (fun z => z) (rX11_fails (q := q) y20 y19 y18 h hN) (fun x23 e24 => Or.inl ⟨_, _, rfl, fun z => z, ?_⟩)
            show mm_E2 _ _ _ _ _ [.int (mx_bi x23.1)] x23.2 _ _
            refine me_ifB_eq (pc' := 104) (tgt := 106) dX11_reserve_101 (by decide) rfl (fun c25 => ?_) (fun c25 => ?_)
            · refine me_aload_n (pc' := 107) (i := 0) dX11_reserve_106 rfl rfl rfl ?_
              refine me_iconst (pc' := 108) (v := 0) dX11_reserve_107 rfl kc_i0 ?_
              refine me_callV (As := [.int 0]) (st := []) (F' := (mm_Sq q)) (G' := (mm_Sq q)) (F'' := (mm_Sq q)) (pc' := 111) dX11_reserve_108 rfl mfX11_remember rfl lkX11_271 kd_352 rfl (mm_ltm kd_352 hN) ⟨Nat.le_of_ble_eq_true rfl, Nat.le_of_ble_eq_true rfl⟩ (Nat.le_of_ble_eq_true rfl) (fun z => z) (rX11_remember (q := q) 0 x23.2 hN) (fun h26 e27 => Or.inl ⟨_, _, rfl, fun z => z, ?_⟩)
              show mm_E2 _ _ _ _ _ [] h26 _ _
              refine me_aload_n (pc' := 112) (i := 0) dX11_reserve_111 rfl rfl rfl ?_
              refine me_iload_n (pc' := 113) (i := 1) dX11_reserve_112 rfl rfl rfl ?_
              refine me_iload_n (pc' := 114) (i := 2) dX11_reserve_113 rfl rfl rfl ?_
              refine me_iload_n (pc' := 115) (i := 3) dX11_reserve_114 rfl rfl rfl ?_
              refine me_callV (As := [.int p0, .int p1, .int p2]) (st := []) (F' := (mm_Sq q)) (G' := (mm_Sq q)) (F'' := (mm_Sq q)) (pc' := 118) dX11_reserve_115 rfl mfX11_reserveIt rfl lkX11_247 kd_352 rfl (mm_ltm kd_352 hN) ⟨Nat.le_of_ble_eq_true rfl, Nat.le_of_ble_eq_true rfl⟩ (Nat.le_of_ble_eq_true rfl) (fun z => z) (rX11_reserveIt (q := q) p0 p1 p2 h26 hN) (fun x28 e29 => Or.inl ⟨_, _, rfl, fun z => z, ?_⟩)
              show mm_E2 _ _ _ _ _ [.int x28.1] x28.2 _ _
              exact me_iret dX11_reserve_118 rfl (fun z => z) rfl
            · refine me_iconst (pc' := 105) (v := 0) dX11_reserve_104 rfl kc_i0 ?_
              exact me_iret dX11_reserve_105 rfl (fun z => z) rfl
          refine mm_jnI (fun (j339 : Int32 → Int32 → Option (Int32 × mm_H)) => ∀ (y30 : Int32) (y31 : Int32), mm_E2 (mm_Sq q) (mm_Sq q) mX11_reserve 97 [some (.ref 352), some (.int p0), some (.int p1), some (.int p2), none, none] [.int y30, .int y31, .ref 352] h (j339 y30 y31) lf_ie) ?_ (fun j33 j33p => ?_)
          · intro y30 y31
            refine me_iconst (pc' := 98) (v := 0) dX11_reserve_97 rfl kc_i0 ?_
            exact j22p 0 y30 y31
          refine me_if_eq (pc' := 83) (tgt := 97) dX11_reserve_80 (by decide) rfl (fun c34 => ?_) (fun c34 => ?_)
          · exact mm_maskB [true, true, true, true, false, false] (j33p y14 y15)
          · refine me_aload_n (pc' := 84) (i := 0) dX11_reserve_83 rfl rfl rfl ?_
            refine me_iload_n (pc' := 85) (i := 1) dX11_reserve_84 rfl rfl rfl ?_
            refine me_iload_n (pc' := 86) (i := 2) dX11_reserve_85 rfl rfl rfl ?_
            refine me_iload_n (pc' := 87) (i := 3) dX11_reserve_86 rfl rfl rfl ?_
            refine me_callV (As := [.int p0, .int p1, .int p2]) (st := [.int y14, .int y15, .ref 352]) (F' := (mm_Sq q)) (G' := (mm_Sq q)) (F'' := (mm_Sq q)) (pc' := 90) dX11_reserve_87 rfl mfX11_canReserve rfl lkX11_232 kd_352 rfl (mm_ltm kd_352 hN) ⟨Nat.le_of_ble_eq_true rfl, Nat.le_of_ble_eq_true rfl⟩ (Nat.le_of_ble_eq_true rfl) (fun z => z) (rX11_canReserve (q := q) p0 p1 p2 h hN) (fun x35 e36 => Or.inl ⟨_, _, rfl, fun z => z, ?_⟩)
            show mm_E2 _ _ _ _ _ [.int (mx_bi x35), .int y14, .int y15, .ref 352] h _ _
            refine me_ifB_ne (pc' := 93) (tgt := 97) dX11_reserve_90 (by decide) rfl (fun c37 => ?_) (fun c37 => ?_)
            · exact mm_maskB [true, true, true, true, false, false] (j33p y14 y15)
            · refine me_iconst (pc' := 94) (v := 1) dX11_reserve_93 rfl kc_i1 ?_
              refine me_goto (tgt := 98) dX11_reserve_94 (by decide) ?_
              exact mm_maskB [true, true, true, true, false, false] (j22p 1 y14 y15)
        refine me_if_ne (pc' := 73) (tgt := 77) dX11_reserve_70 (by decide) rfl (fun c38 => ?_) (fun c38 => ?_)
        · refine me_iconst (pc' := 78) (v := 0) dX11_reserve_77 rfl kc_i0 ?_
          exact mm_maskB [true, true, true, true, false, true] (j17p 0 y11)
        · refine me_iconst (pc' := 74) (v := 1) dX11_reserve_73 rfl kc_i1 ?_
          refine me_goto (tgt := 78) dX11_reserve_74 (by decide) ?_
          exact mm_maskB [true, true, true, true, false, true] (j17p 1 y11)
      refine me_ifB_ne (pc' := 63) (tgt := 67) dX11_reserve_60 (by decide) rfl (fun c39 => ?_) (fun c39 => ?_)
      · refine me_iconst (pc' := 68) (v := 0) dX11_reserve_67 rfl kc_i0 ?_
        exact j13p 0
      · refine me_iconst (pc' := 64) (v := 1) dX11_reserve_63 rfl kc_i1 ?_
        refine me_goto (tgt := 68) dX11_reserve_64 (by decide) ?_
        exact j13p 1
    refine mm_jnI (fun (j409 : Unit → Option (Int32 × mm_H)) => ∀ (_ : Unit), mm_E2 (mm_Sq q) (mm_Sq q) mX11_reserve 51 [some (.ref 352), some (.int p0), some (.int p1), some (.int p2), some (.int y3), none] [] h (j409 ()) lf_ie) ?_ (fun j40 j40p => ?_)
    · intro _
      refine me_iconst (pc' := 52) (v := 0) dX11_reserve_51 rfl kc_i0 ?_
      exact j8p 0
    refine me_ifB_eq (pc' := 42) (tgt := 51) dX11_reserve_39 (by decide) rfl (fun c41 => ?_) (fun c41 => ?_)
    · exact j40p ()
    · refine me_iload (pc' := 44) (i := 4) dX11_reserve_42 rfl rfl ?_
      refine me_if_eq (pc' := 47) (tgt := 51) dX11_reserve_44 (by decide) rfl (fun c42 => ?_) (fun c42 => ?_)
      · exact j40p ()
      · refine me_iconst (pc' := 48) (v := 1) dX11_reserve_47 rfl kc_i1 ?_
        refine me_goto (tgt := 52) dX11_reserve_48 (by decide) ?_
        exact j8p 1
  refine mm_jnI (fun (j439 : Unit → Option (Int32 × mm_H)) => ∀ (_ : Unit), mm_E2 (mm_Sq q) (mm_Sq q) mX11_reserve 31 [some (.ref 352), some (.int p0), some (.int p1), some (.int p2), none, none] [] h (j439 ()) lf_ie) ?_ (fun j43 j43p => ?_)
  · intro _
    refine me_iconst (pc' := 32) (v := 0) dX11_reserve_31 rfl kc_i0 ?_
    exact j4p 0
  refine me_ifB_eq (pc' := 11) (tgt := 31) dX11_reserve_8 (by decide) rfl (fun c44 => ?_) (fun c44 => ?_)
  · exact j43p ()
  · refine me_iload_n (pc' := 12) (i := 3) dX11_reserve_11 rfl rfl rfl ?_
    refine me_aload_n (pc' := 13) (i := 0) dX11_reserve_12 rfl rfl rfl ?_
    refine me_getR (pc' := 16) (q' := 353) dX11_reserve_13 rfl fkX11_13 kd_352 (mm_ltm kd_352 hN) rfl (mrX11_0 hN) ?_
    refine me_iconst (pc' := 17) (v := 0) dX11_reserve_16 rfl kc_i0 ?_
    refine mm_guard (fun c45 => ?_)
    refine me_iald (pc' := 18) dX11_reserve_17 rfl kd_353 (mm_ltm kd_353 hN) (mm_ibd_of c45) ?_
    refine me_sipush (pc' := 21) (v := 9999) dX11_reserve_18 rfl kc_s9999 ?_
    refine me_callS (As := [.int p2, .int (mh_I h 353 (Int32.toNatClampNeg (0))), .int 9999]) (st := []) (F' := (mm_Sq q)) (G' := (mm_Sq q)) (F'' := (mm_Sq q)) (pc' := 24) dX11_reserve_21 rfl mfX11_in rfl lkX11_75 ⟨Nat.le_of_ble_eq_true rfl, Nat.le_of_ble_eq_true rfl⟩ (Nat.le_of_ble_eq_true rfl) (fun z => z) (rX11_in (q := q) p2 ((mh_I h 353 (Int32.toNatClampNeg (0)))) 9999 h hN) (fun x46 e47 => Or.inl ⟨_, _, rfl, fun z => z, ?_⟩)
    show mm_E2 _ _ _ _ _ [.int (mx_bi x46)] h _ _
    refine me_ifB_eq (pc' := 27) (tgt := 31) dX11_reserve_24 (by decide) rfl (fun c48 => ?_) (fun c48 => ?_)
    · exact j43p ()
    · refine me_iconst (pc' := 28) (v := 1) dX11_reserve_27 rfl kc_i1 ?_
      refine me_goto (tgt := 32) dX11_reserve_28 (by decide) ?_
      exact j4p 1
def gX11_ship (p0 : Int32) (h : mm_H) : Option (Int32 × mm_H) :=
(gX11_isReservation p0 h).bind (fun (x1 : Bool) =>
mm_jn (fun (y3 : Int32) =>
mm_jn (fun (y6 : Int32) (y7 : Int32) =>
(gX11_fails y7 y6 0 h).bind (fun (x10 : (Bool × mm_H)) =>
if x10.1 = true then
some (0, x10.2)
else
(gX11_remember 0 x10.2).bind (fun (h13 : mm_H) =>
(gX11_shipIt p0 h13).bind (fun (x15 : (Int32 × mm_H)) =>
some (x15.1, x15.2))))) (fun (j9 : Int32 → Int32 → Option (Int32 × mm_H)) =>
mm_jn (fun (y17 : Int32) =>
j9 0 y17) (fun (j19 : Int32 → Option (Int32 × mm_H)) =>
if x1 = true then
(gX11_shippingReason p0 h).bind (fun (x21 : Int32) =>
if x21 = 0 then
j19 y3
else
j9 1 y3)
else
j19 y3))) (fun (j5 : Int32 → Option (Int32 × mm_H)) =>
if x1 = true then
j5 0
else
j5 1))
theorem rX11_ship {q : Nat × Nat} (p0 : Int32) (h : mm_H) (hN : 358 ≤ q.1) : mm_R2 (mm_Sq q) (mm_Sq q) mX11_ship [.ref 352, .int p0] h (gX11_ship p0 h) lf_ie := by
  refine mm_body (L := [some (.ref 352), some (.int p0), none]) rfl (by decide +kernel) (Nat.le_of_ble_eq_true rfl) rfl ?_
  unfold gX11_ship
  refine me_aload_n (pc' := 1) (i := 0) dX11_ship_0 rfl rfl rfl ?_
  refine me_iload_n (pc' := 2) (i := 1) dX11_ship_1 rfl rfl rfl ?_
  refine me_callV (As := [.int p0]) (st := []) (F' := (mm_Sq q)) (G' := (mm_Sq q)) (F'' := (mm_Sq q)) (pc' := 5) dX11_ship_2 rfl mfX11_isReservation rfl lkX11_235 kd_352 rfl (mm_ltm kd_352 hN) ⟨Nat.le_of_ble_eq_true rfl, Nat.le_of_ble_eq_true rfl⟩ (Nat.le_of_ble_eq_true rfl) (fun z => z) (rX11_isReservation (q := q) p0 h hN) (fun x1 e2 => Or.inl ⟨_, _, rfl, fun z => z, ?_⟩)
  show mm_E2 _ _ _ _ _ [.int (mx_bi x1)] h _ _
  refine me_istore_n (pc' := 6) (i := 2) (L' := [some (.ref 352), some (.int p0), some (.int (mx_bi x1))]) dX11_ship_5 rfl rfl (Nat.le_of_ble_eq_true rfl) (Nat.le_of_ble_eq_true rfl) rfl ?_
  refine me_aload_n (pc' := 7) (i := 0) dX11_ship_6 rfl rfl rfl ?_
  refine me_iload_n (pc' := 8) (i := 2) dX11_ship_7 rfl rfl rfl ?_
  refine mm_jnI (fun (j59 : Int32 → Option (Int32 × mm_H)) => ∀ (y3 : Int32), mm_E2 (mm_Sq q) (mm_Sq q) mX11_ship 16 [some (.ref 352), some (.int p0), some (.int (mx_bi x1))] [.int y3, .ref 352] h (j59 y3) lf_ie) ?_ (fun j5 j5p => ?_)
  · intro y3
    refine me_iload_n (pc' := 17) (i := 2) dX11_ship_16 rfl rfl rfl ?_
    refine mm_jnI (fun (j99 : Int32 → Int32 → Option (Int32 × mm_H)) => ∀ (y6 : Int32) (y7 : Int32), mm_E2 (mm_Sq q) (mm_Sq q) mX11_ship 33 [some (.ref 352), some (.int p0), none] [.int y6, .int y7, .ref 352] h (j99 y6 y7) lf_ie) ?_ (fun j9 j9p => ?_)
    · intro y6 y7
      refine me_iconst (pc' := 34) (v := 0) dX11_ship_33 rfl kc_i0 ?_
      refine me_callV (As := [.int y7, .int y6, .int 0]) (st := []) (F' := (mm_Sq q)) (G' := (mm_Sq q)) (F'' := (mm_Sq q)) (pc' := 37) dX11_ship_34 rfl mfX11_fails rfl lkX11_143 kd_352 rfl (mm_ltm kd_352 hN) ⟨Nat.le_of_ble_eq_true rfl, Nat.le_of_ble_eq_true rfl⟩ (Nat.le_of_ble_eq_true rfl) (fun z => z) (rX11_fails (q := q) y7 y6 0 h hN) (fun x10 e11 => Or.inl ⟨_, _, rfl, fun z => z, ?_⟩)
      show mm_E2 _ _ _ _ _ [.int (mx_bi x10.1)] x10.2 _ _
      refine me_ifB_eq (pc' := 40) (tgt := 42) dX11_ship_37 (by decide) rfl (fun c12 => ?_) (fun c12 => ?_)
      · refine me_aload_n (pc' := 43) (i := 0) dX11_ship_42 rfl rfl rfl ?_
        refine me_iconst (pc' := 44) (v := 0) dX11_ship_43 rfl kc_i0 ?_
        refine me_callV (As := [.int 0]) (st := []) (F' := (mm_Sq q)) (G' := (mm_Sq q)) (F'' := (mm_Sq q)) (pc' := 47) dX11_ship_44 rfl mfX11_remember rfl lkX11_271 kd_352 rfl (mm_ltm kd_352 hN) ⟨Nat.le_of_ble_eq_true rfl, Nat.le_of_ble_eq_true rfl⟩ (Nat.le_of_ble_eq_true rfl) (fun z => z) (rX11_remember (q := q) 0 x10.2 hN) (fun h13 e14 => Or.inl ⟨_, _, rfl, fun z => z, ?_⟩)
        show mm_E2 _ _ _ _ _ [] h13 _ _
        refine me_aload_n (pc' := 48) (i := 0) dX11_ship_47 rfl rfl rfl ?_
        refine me_iload_n (pc' := 49) (i := 1) dX11_ship_48 rfl rfl rfl ?_
        refine me_callV (As := [.int p0]) (st := []) (F' := (mm_Sq q)) (G' := (mm_Sq q)) (F'' := (mm_Sq q)) (pc' := 52) dX11_ship_49 rfl mfX11_shipIt rfl lkX11_250 kd_352 rfl (mm_ltm kd_352 hN) ⟨Nat.le_of_ble_eq_true rfl, Nat.le_of_ble_eq_true rfl⟩ (Nat.le_of_ble_eq_true rfl) (fun z => z) (rX11_shipIt (q := q) p0 h13 hN) (fun x15 e16 => Or.inl ⟨_, _, rfl, fun z => z, ?_⟩)
        show mm_E2 _ _ _ _ _ [.int x15.1] x15.2 _ _
        exact me_iret dX11_ship_52 rfl (fun z => z) rfl
      · refine me_iconst (pc' := 41) (v := 0) dX11_ship_40 rfl kc_i0 ?_
        exact me_iret dX11_ship_41 rfl (fun z => z) rfl
    refine mm_jnI (fun (j199 : Int32 → Option (Int32 × mm_H)) => ∀ (y17 : Int32), mm_E2 (mm_Sq q) (mm_Sq q) mX11_ship 32 [some (.ref 352), some (.int p0), none] [.int y17, .ref 352] h (j199 y17) lf_ie) ?_ (fun j19 j19p => ?_)
    · intro y17
      refine me_iconst (pc' := 33) (v := 0) dX11_ship_32 rfl kc_i0 ?_
      exact j9p 0 y17
    refine me_ifB_eq (pc' := 20) (tgt := 32) dX11_ship_17 (by decide) rfl (fun c20 => ?_) (fun c20 => ?_)
    · exact mm_maskB [true, true, false] (j19p y3)
    · refine me_aload_n (pc' := 21) (i := 0) dX11_ship_20 rfl rfl rfl ?_
      refine me_iload_n (pc' := 22) (i := 1) dX11_ship_21 rfl rfl rfl ?_
      refine me_callV (As := [.int p0]) (st := [.int y3, .ref 352]) (F' := (mm_Sq q)) (G' := (mm_Sq q)) (F'' := (mm_Sq q)) (pc' := 25) dX11_ship_22 rfl mfX11_shippingReason rfl lkX11_238 kd_352 rfl (mm_ltm kd_352 hN) ⟨Nat.le_of_ble_eq_true rfl, Nat.le_of_ble_eq_true rfl⟩ (Nat.le_of_ble_eq_true rfl) (fun z => z) (rX11_shippingReason (q := q) p0 h hN) (fun x21 e22 => Or.inl ⟨_, _, rfl, fun z => z, ?_⟩)
      show mm_E2 _ _ _ _ _ [.int x21, .int y3, .ref 352] h _ _
      refine me_if_eq (pc' := 28) (tgt := 32) dX11_ship_25 (by decide) rfl (fun c23 => ?_) (fun c23 => ?_)
      · exact mm_maskB [true, true, false] (j19p y3)
      · refine me_iconst (pc' := 29) (v := 1) dX11_ship_28 rfl kc_i1 ?_
        refine me_goto (tgt := 33) dX11_ship_29 (by decide) ?_
        exact mm_maskB [true, true, false] (j9p 1 y3)
  refine me_ifB_ne (pc' := 11) (tgt := 15) dX11_ship_8 (by decide) rfl (fun c24 => ?_) (fun c24 => ?_)
  · refine me_iconst (pc' := 16) (v := 0) dX11_ship_15 rfl kc_i0 ?_
    exact j5p 0
  · refine me_iconst (pc' := 12) (v := 1) dX11_ship_11 rfl kc_i1 ?_
    refine me_goto (tgt := 16) dX11_ship_12 (by decide) ?_
    exact j5p 1
def gX11_cancel (p0 : Int32) (h : mm_H) : Option (Int32 × mm_H) :=
(gX11_isReservation p0 h).bind (fun (x1 : Bool) =>
mm_jn (fun (y3 : Int32) =>
mm_jn (fun (y6 : Int32) (y7 : Int32) =>
(gX11_fails y7 y6 0 h).bind (fun (x10 : (Bool × mm_H)) =>
if x10.1 = true then
some (0, x10.2)
else
(gX11_remember 0 x10.2).bind (fun (h13 : mm_H) =>
(gX11_cancelIt p0 h13).bind (fun (x15 : (Int32 × mm_H)) =>
some (x15.1, x15.2))))) (fun (j9 : Int32 → Int32 → Option (Int32 × mm_H)) =>
mm_jn (fun (y17 : Int32) =>
j9 0 y17) (fun (j19 : Int32 → Option (Int32 × mm_H)) =>
if x1 = true then
(gX11_isOpenOne p0 h).bind (fun (x21 : Bool) =>
if x21 = true then
j19 y3
else
j9 1 y3)
else
j19 y3))) (fun (j5 : Int32 → Option (Int32 × mm_H)) =>
if x1 = true then
j5 0
else
j5 1))
theorem rX11_cancel {q : Nat × Nat} (p0 : Int32) (h : mm_H) (hN : 358 ≤ q.1) : mm_R2 (mm_Sq q) (mm_Sq q) mX11_cancel [.ref 352, .int p0] h (gX11_cancel p0 h) lf_ie := by
  refine mm_body (L := [some (.ref 352), some (.int p0), none]) rfl (by decide +kernel) (Nat.le_of_ble_eq_true rfl) rfl ?_
  unfold gX11_cancel
  refine me_aload_n (pc' := 1) (i := 0) dX11_cancel_0 rfl rfl rfl ?_
  refine me_iload_n (pc' := 2) (i := 1) dX11_cancel_1 rfl rfl rfl ?_
  refine me_callV (As := [.int p0]) (st := []) (F' := (mm_Sq q)) (G' := (mm_Sq q)) (F'' := (mm_Sq q)) (pc' := 5) dX11_cancel_2 rfl mfX11_isReservation rfl lkX11_235 kd_352 rfl (mm_ltm kd_352 hN) ⟨Nat.le_of_ble_eq_true rfl, Nat.le_of_ble_eq_true rfl⟩ (Nat.le_of_ble_eq_true rfl) (fun z => z) (rX11_isReservation (q := q) p0 h hN) (fun x1 e2 => Or.inl ⟨_, _, rfl, fun z => z, ?_⟩)
  show mm_E2 _ _ _ _ _ [.int (mx_bi x1)] h _ _
  refine me_istore_n (pc' := 6) (i := 2) (L' := [some (.ref 352), some (.int p0), some (.int (mx_bi x1))]) dX11_cancel_5 rfl rfl (Nat.le_of_ble_eq_true rfl) (Nat.le_of_ble_eq_true rfl) rfl ?_
  refine me_aload_n (pc' := 7) (i := 0) dX11_cancel_6 rfl rfl rfl ?_
  refine me_iload_n (pc' := 8) (i := 2) dX11_cancel_7 rfl rfl rfl ?_
  refine mm_jnI (fun (j59 : Int32 → Option (Int32 × mm_H)) => ∀ (y3 : Int32), mm_E2 (mm_Sq q) (mm_Sq q) mX11_cancel 16 [some (.ref 352), some (.int p0), some (.int (mx_bi x1))] [.int y3, .ref 352] h (j59 y3) lf_ie) ?_ (fun j5 j5p => ?_)
  · intro y3
    refine me_iload_n (pc' := 17) (i := 2) dX11_cancel_16 rfl rfl rfl ?_
    refine mm_jnI (fun (j99 : Int32 → Int32 → Option (Int32 × mm_H)) => ∀ (y6 : Int32) (y7 : Int32), mm_E2 (mm_Sq q) (mm_Sq q) mX11_cancel 33 [some (.ref 352), some (.int p0), none] [.int y6, .int y7, .ref 352] h (j99 y6 y7) lf_ie) ?_ (fun j9 j9p => ?_)
    · intro y6 y7
      refine me_iconst (pc' := 34) (v := 0) dX11_cancel_33 rfl kc_i0 ?_
      refine me_callV (As := [.int y7, .int y6, .int 0]) (st := []) (F' := (mm_Sq q)) (G' := (mm_Sq q)) (F'' := (mm_Sq q)) (pc' := 37) dX11_cancel_34 rfl mfX11_fails rfl lkX11_143 kd_352 rfl (mm_ltm kd_352 hN) ⟨Nat.le_of_ble_eq_true rfl, Nat.le_of_ble_eq_true rfl⟩ (Nat.le_of_ble_eq_true rfl) (fun z => z) (rX11_fails (q := q) y7 y6 0 h hN) (fun x10 e11 => Or.inl ⟨_, _, rfl, fun z => z, ?_⟩)
      show mm_E2 _ _ _ _ _ [.int (mx_bi x10.1)] x10.2 _ _
      refine me_ifB_eq (pc' := 40) (tgt := 42) dX11_cancel_37 (by decide) rfl (fun c12 => ?_) (fun c12 => ?_)
      · refine me_aload_n (pc' := 43) (i := 0) dX11_cancel_42 rfl rfl rfl ?_
        refine me_iconst (pc' := 44) (v := 0) dX11_cancel_43 rfl kc_i0 ?_
        refine me_callV (As := [.int 0]) (st := []) (F' := (mm_Sq q)) (G' := (mm_Sq q)) (F'' := (mm_Sq q)) (pc' := 47) dX11_cancel_44 rfl mfX11_remember rfl lkX11_271 kd_352 rfl (mm_ltm kd_352 hN) ⟨Nat.le_of_ble_eq_true rfl, Nat.le_of_ble_eq_true rfl⟩ (Nat.le_of_ble_eq_true rfl) (fun z => z) (rX11_remember (q := q) 0 x10.2 hN) (fun h13 e14 => Or.inl ⟨_, _, rfl, fun z => z, ?_⟩)
        show mm_E2 _ _ _ _ _ [] h13 _ _
        refine me_aload_n (pc' := 48) (i := 0) dX11_cancel_47 rfl rfl rfl ?_
        refine me_iload_n (pc' := 49) (i := 1) dX11_cancel_48 rfl rfl rfl ?_
        refine me_callV (As := [.int p0]) (st := []) (F' := (mm_Sq q)) (G' := (mm_Sq q)) (F'' := (mm_Sq q)) (pc' := 52) dX11_cancel_49 rfl mfX11_cancelIt rfl lkX11_253 kd_352 rfl (mm_ltm kd_352 hN) ⟨Nat.le_of_ble_eq_true rfl, Nat.le_of_ble_eq_true rfl⟩ (Nat.le_of_ble_eq_true rfl) (fun z => z) (rX11_cancelIt (q := q) p0 h13 hN) (fun x15 e16 => Or.inl ⟨_, _, rfl, fun z => z, ?_⟩)
        show mm_E2 _ _ _ _ _ [.int x15.1] x15.2 _ _
        exact me_iret dX11_cancel_52 rfl (fun z => z) rfl
      · refine me_iconst (pc' := 41) (v := 0) dX11_cancel_40 rfl kc_i0 ?_
        exact me_iret dX11_cancel_41 rfl (fun z => z) rfl
    refine mm_jnI (fun (j199 : Int32 → Option (Int32 × mm_H)) => ∀ (y17 : Int32), mm_E2 (mm_Sq q) (mm_Sq q) mX11_cancel 32 [some (.ref 352), some (.int p0), none] [.int y17, .ref 352] h (j199 y17) lf_ie) ?_ (fun j19 j19p => ?_)
    · intro y17
      refine me_iconst (pc' := 33) (v := 0) dX11_cancel_32 rfl kc_i0 ?_
      exact j9p 0 y17
    refine me_ifB_eq (pc' := 20) (tgt := 32) dX11_cancel_17 (by decide) rfl (fun c20 => ?_) (fun c20 => ?_)
    · exact mm_maskB [true, true, false] (j19p y3)
    · refine me_aload_n (pc' := 21) (i := 0) dX11_cancel_20 rfl rfl rfl ?_
      refine me_iload_n (pc' := 22) (i := 1) dX11_cancel_21 rfl rfl rfl ?_
      refine me_callV (As := [.int p0]) (st := [.int y3, .ref 352]) (F' := (mm_Sq q)) (G' := (mm_Sq q)) (F'' := (mm_Sq q)) (pc' := 25) dX11_cancel_22 rfl mfX11_isOpenOne rfl lkX11_87 kd_352 rfl (mm_ltm kd_352 hN) ⟨Nat.le_of_ble_eq_true rfl, Nat.le_of_ble_eq_true rfl⟩ (Nat.le_of_ble_eq_true rfl) (fun z => z) (rX11_isOpenOne (q := q) p0 h hN) (fun x21 e22 => Or.inl ⟨_, _, rfl, fun z => z, ?_⟩)
      show mm_E2 _ _ _ _ _ [.int (mx_bi x21), .int y3, .ref 352] h _ _
      refine me_ifB_ne (pc' := 28) (tgt := 32) dX11_cancel_25 (by decide) rfl (fun c23 => ?_) (fun c23 => ?_)
      · exact mm_maskB [true, true, false] (j19p y3)
      · refine me_iconst (pc' := 29) (v := 1) dX11_cancel_28 rfl kc_i1 ?_
        refine me_goto (tgt := 33) dX11_cancel_29 (by decide) ?_
        exact mm_maskB [true, true, false] (j9p 1 y3)
  refine me_ifB_ne (pc' := 11) (tgt := 15) dX11_cancel_8 (by decide) rfl (fun c24 => ?_) (fun c24 => ?_)
  · refine me_iconst (pc' := 16) (v := 0) dX11_cancel_15 rfl kc_i0 ?_
    exact j5p 0
  · refine me_iconst (pc' := 12) (v := 1) dX11_cancel_11 rfl kc_i1 ?_
    refine me_goto (tgt := 16) dX11_cancel_12 (by decide) ?_
    exact j5p 1
def gX11_refill (p0 : Int32) (h : mm_H) : Option (Int32 × mm_H) :=
(gX11_isReservation p0 h).bind (fun (x1 : Bool) =>
mm_jn (fun (y3 : Int32) =>
mm_jn (fun (y6 : Int32) (y7 : Int32) =>
(gX11_fails y7 y6 0 h).bind (fun (x10 : (Bool × mm_H)) =>
if x10.1 = true then
some (0, x10.2)
else
(gX11_remember 0 x10.2).bind (fun (h13 : mm_H) =>
(gX11_refillIt p0 h13).bind (fun (x15 : (Int32 × mm_H)) =>
some (x15.1, x15.2))))) (fun (j9 : Int32 → Int32 → Option (Int32 × mm_H)) =>
mm_jn (fun (y17 : Int32) =>
j9 0 y17) (fun (j19 : Int32 → Option (Int32 × mm_H)) =>
if x1 = true then
(gX11_isOpenOne p0 h).bind (fun (x21 : Bool) =>
if x21 = true then
j19 y3
else
j9 1 y3)
else
j19 y3))) (fun (j5 : Int32 → Option (Int32 × mm_H)) =>
if x1 = true then
j5 0
else
j5 1))
theorem rX11_refill {q : Nat × Nat} (p0 : Int32) (h : mm_H) (hN : 358 ≤ q.1) : mm_R2 (mm_Sq q) (mm_Sq q) mX11_refill [.ref 352, .int p0] h (gX11_refill p0 h) lf_ie := by
  refine mm_body (L := [some (.ref 352), some (.int p0), none]) rfl (by decide +kernel) (Nat.le_of_ble_eq_true rfl) rfl ?_
  unfold gX11_refill
  refine me_aload_n (pc' := 1) (i := 0) dX11_refill_0 rfl rfl rfl ?_
  refine me_iload_n (pc' := 2) (i := 1) dX11_refill_1 rfl rfl rfl ?_
  refine me_callV (As := [.int p0]) (st := []) (F' := (mm_Sq q)) (G' := (mm_Sq q)) (F'' := (mm_Sq q)) (pc' := 5) dX11_refill_2 rfl mfX11_isReservation rfl lkX11_235 kd_352 rfl (mm_ltm kd_352 hN) ⟨Nat.le_of_ble_eq_true rfl, Nat.le_of_ble_eq_true rfl⟩ (Nat.le_of_ble_eq_true rfl) (fun z => z) (rX11_isReservation (q := q) p0 h hN) (fun x1 e2 => Or.inl ⟨_, _, rfl, fun z => z, ?_⟩)
  show mm_E2 _ _ _ _ _ [.int (mx_bi x1)] h _ _
  refine me_istore_n (pc' := 6) (i := 2) (L' := [some (.ref 352), some (.int p0), some (.int (mx_bi x1))]) dX11_refill_5 rfl rfl (Nat.le_of_ble_eq_true rfl) (Nat.le_of_ble_eq_true rfl) rfl ?_
  refine me_aload_n (pc' := 7) (i := 0) dX11_refill_6 rfl rfl rfl ?_
  refine me_iload_n (pc' := 8) (i := 2) dX11_refill_7 rfl rfl rfl ?_
  refine mm_jnI (fun (j59 : Int32 → Option (Int32 × mm_H)) => ∀ (y3 : Int32), mm_E2 (mm_Sq q) (mm_Sq q) mX11_refill 16 [some (.ref 352), some (.int p0), some (.int (mx_bi x1))] [.int y3, .ref 352] h (j59 y3) lf_ie) ?_ (fun j5 j5p => ?_)
  · intro y3
    refine me_iload_n (pc' := 17) (i := 2) dX11_refill_16 rfl rfl rfl ?_
    refine mm_jnI (fun (j99 : Int32 → Int32 → Option (Int32 × mm_H)) => ∀ (y6 : Int32) (y7 : Int32), mm_E2 (mm_Sq q) (mm_Sq q) mX11_refill 33 [some (.ref 352), some (.int p0), none] [.int y6, .int y7, .ref 352] h (j99 y6 y7) lf_ie) ?_ (fun j9 j9p => ?_)
    · intro y6 y7
      refine me_iconst (pc' := 34) (v := 0) dX11_refill_33 rfl kc_i0 ?_
      refine me_callV (As := [.int y7, .int y6, .int 0]) (st := []) (F' := (mm_Sq q)) (G' := (mm_Sq q)) (F'' := (mm_Sq q)) (pc' := 37) dX11_refill_34 rfl mfX11_fails rfl lkX11_143 kd_352 rfl (mm_ltm kd_352 hN) ⟨Nat.le_of_ble_eq_true rfl, Nat.le_of_ble_eq_true rfl⟩ (Nat.le_of_ble_eq_true rfl) (fun z => z) (rX11_fails (q := q) y7 y6 0 h hN) (fun x10 e11 => Or.inl ⟨_, _, rfl, fun z => z, ?_⟩)
      show mm_E2 _ _ _ _ _ [.int (mx_bi x10.1)] x10.2 _ _
      refine me_ifB_eq (pc' := 40) (tgt := 42) dX11_refill_37 (by decide) rfl (fun c12 => ?_) (fun c12 => ?_)
      · refine me_aload_n (pc' := 43) (i := 0) dX11_refill_42 rfl rfl rfl ?_
        refine me_iconst (pc' := 44) (v := 0) dX11_refill_43 rfl kc_i0 ?_
        refine me_callV (As := [.int 0]) (st := []) (F' := (mm_Sq q)) (G' := (mm_Sq q)) (F'' := (mm_Sq q)) (pc' := 47) dX11_refill_44 rfl mfX11_remember rfl lkX11_271 kd_352 rfl (mm_ltm kd_352 hN) ⟨Nat.le_of_ble_eq_true rfl, Nat.le_of_ble_eq_true rfl⟩ (Nat.le_of_ble_eq_true rfl) (fun z => z) (rX11_remember (q := q) 0 x10.2 hN) (fun h13 e14 => Or.inl ⟨_, _, rfl, fun z => z, ?_⟩)
        show mm_E2 _ _ _ _ _ [] h13 _ _
        refine me_aload_n (pc' := 48) (i := 0) dX11_refill_47 rfl rfl rfl ?_
        refine me_iload_n (pc' := 49) (i := 1) dX11_refill_48 rfl rfl rfl ?_
        refine me_callV (As := [.int p0]) (st := []) (F' := (mm_Sq q)) (G' := (mm_Sq q)) (F'' := (mm_Sq q)) (pc' := 52) dX11_refill_49 rfl mfX11_refillIt rfl lkX11_256 kd_352 rfl (mm_ltm kd_352 hN) ⟨Nat.le_of_ble_eq_true rfl, Nat.le_of_ble_eq_true rfl⟩ (Nat.le_of_ble_eq_true rfl) (fun z => z) (rX11_refillIt (q := q) p0 h13 hN) (fun x15 e16 => Or.inl ⟨_, _, rfl, fun z => z, ?_⟩)
        show mm_E2 _ _ _ _ _ [.int x15.1] x15.2 _ _
        exact me_iret dX11_refill_52 rfl (fun z => z) rfl
      · refine me_iconst (pc' := 41) (v := 0) dX11_refill_40 rfl kc_i0 ?_
        exact me_iret dX11_refill_41 rfl (fun z => z) rfl
    refine mm_jnI (fun (j199 : Int32 → Option (Int32 × mm_H)) => ∀ (y17 : Int32), mm_E2 (mm_Sq q) (mm_Sq q) mX11_refill 32 [some (.ref 352), some (.int p0), none] [.int y17, .ref 352] h (j199 y17) lf_ie) ?_ (fun j19 j19p => ?_)
    · intro y17
      refine me_iconst (pc' := 33) (v := 0) dX11_refill_32 rfl kc_i0 ?_
      exact j9p 0 y17
    refine me_ifB_eq (pc' := 20) (tgt := 32) dX11_refill_17 (by decide) rfl (fun c20 => ?_) (fun c20 => ?_)
    · exact mm_maskB [true, true, false] (j19p y3)
    · refine me_aload_n (pc' := 21) (i := 0) dX11_refill_20 rfl rfl rfl ?_
      refine me_iload_n (pc' := 22) (i := 1) dX11_refill_21 rfl rfl rfl ?_
      refine me_callV (As := [.int p0]) (st := [.int y3, .ref 352]) (F' := (mm_Sq q)) (G' := (mm_Sq q)) (F'' := (mm_Sq q)) (pc' := 25) dX11_refill_22 rfl mfX11_isOpenOne rfl lkX11_87 kd_352 rfl (mm_ltm kd_352 hN) ⟨Nat.le_of_ble_eq_true rfl, Nat.le_of_ble_eq_true rfl⟩ (Nat.le_of_ble_eq_true rfl) (fun z => z) (rX11_isOpenOne (q := q) p0 h hN) (fun x21 e22 => Or.inl ⟨_, _, rfl, fun z => z, ?_⟩)
      show mm_E2 _ _ _ _ _ [.int (mx_bi x21), .int y3, .ref 352] h _ _
      refine me_ifB_ne (pc' := 28) (tgt := 32) dX11_refill_25 (by decide) rfl (fun c23 => ?_) (fun c23 => ?_)
      · exact mm_maskB [true, true, false] (j19p y3)
      · refine me_iconst (pc' := 29) (v := 1) dX11_refill_28 rfl kc_i1 ?_
        refine me_goto (tgt := 33) dX11_refill_29 (by decide) ?_
        exact mm_maskB [true, true, false] (j9p 1 y3)
  refine me_ifB_ne (pc' := 11) (tgt := 15) dX11_refill_8 (by decide) rfl (fun c24 => ?_) (fun c24 => ?_)
  · refine me_iconst (pc' := 16) (v := 0) dX11_refill_15 rfl kc_i0 ?_
    exact j5p 0
  · refine me_iconst (pc' := 12) (v := 1) dX11_refill_11 rfl kc_i1 ?_
    refine me_goto (tgt := 16) dX11_refill_12 (by decide) ?_
    exact j5p 1
def gX11_takeStock (p0 : Int32) (p1 : Int32) (h : mm_H) : Option (Int32 × mm_H) :=
(gX11_isBatch p0 h).bind (fun (x1 : Bool) =>
mm_jn (fun (y3 : Int32) =>
(gX11_isBatch p0 h).bind (fun (x5 : Bool) =>
mm_jn (fun (y7 : Int32) =>
(gX11_in p1 0 999 h).bind (fun (x10 : Bool) =>
mm_jn (fun (y12 : Int32) (y13 : Int32) =>
mm_jn (fun (y16 : Int32) (y17 : Int32) (y18 : Int32) =>
(gX11_fails y18 y17 y16 h).bind (fun (x21 : (Bool × mm_H)) =>
if x21.1 = true then
some (0, x21.2)
else
(gX11_remember 0 x21.2).bind (fun (h24 : mm_H) =>
(gX11_countIt p0 p1 h24).bind (fun (x26 : (Int32 × mm_H)) =>
some (x26.1, x26.2))))) (fun (j20 : Int32 → Int32 → Int32 → Option (Int32 × mm_H)) =>
mm_jn (fun (y28 : Int32) (y29 : Int32) =>
j20 0 y28 y29) (fun (j31 : Int32 → Int32 → Option (Int32 × mm_H)) =>
if y3 = 0 then
j31 y12 y13
else
(gX11_held p0 h).bind (fun (x33 : Int32) =>
if p1 < x33 then
j20 1 y12 y13
else
j31 y12 y13)))) (fun (j15 : Int32 → Int32 → Option (Int32 × mm_H)) =>
if x10 = true then
j15 0 y7
else
j15 1 y7))) (fun (j9 : Int32 → Option (Int32 × mm_H)) =>
if x5 = true then
j9 0
else
j9 1))) (fun (j4 : Int32 → Option (Int32 × mm_H)) =>
mm_jn (fun (_ : Unit) =>
j4 0) (fun (j38 : Unit → Option (Int32 × mm_H)) =>
if x1 = true then
(gX11_in p1 0 999 h).bind (fun (x40 : Bool) =>
if x40 = true then
j4 1
else
j38 ())
else
j38 ())))
theorem rX11_takeStock {q : Nat × Nat} (p0 : Int32) (p1 : Int32) (h : mm_H) (hN : 358 ≤ q.1) : mm_R2 (mm_Sq q) (mm_Sq q) mX11_takeStock [.ref 352, .int p0, .int p1] h (gX11_takeStock p0 p1 h) lf_ie := by
  refine mm_body (L := [some (.ref 352), some (.int p0), some (.int p1), none]) rfl (by decide +kernel) (Nat.le_of_ble_eq_true rfl) rfl ?_
  unfold gX11_takeStock
  refine me_aload_n (pc' := 1) (i := 0) dX11_takeStock_0 rfl rfl rfl ?_
  refine me_iload_n (pc' := 2) (i := 1) dX11_takeStock_1 rfl rfl rfl ?_
  refine me_callV (As := [.int p0]) (st := []) (F' := (mm_Sq q)) (G' := (mm_Sq q)) (F'' := (mm_Sq q)) (pc' := 5) dX11_takeStock_2 rfl mfX11_isBatch rfl lkX11_241 kd_352 rfl (mm_ltm kd_352 hN) ⟨Nat.le_of_ble_eq_true rfl, Nat.le_of_ble_eq_true rfl⟩ (Nat.le_of_ble_eq_true rfl) (fun z => z) (rX11_isBatch (q := q) p0 h hN) (fun x1 e2 => Or.inl ⟨_, _, rfl, fun z => z, ?_⟩)
  show mm_E2 _ _ _ _ _ [.int (mx_bi x1)] h _ _
  refine mm_jnI (fun (j49 : Int32 → Option (Int32 × mm_H)) => ∀ (y3 : Int32), mm_E2 (mm_Sq q) (mm_Sq q) mX11_takeStock 24 [some (.ref 352), some (.int p0), some (.int p1), none] [.int y3] h (j49 y3) lf_ie) ?_ (fun j4 j4p => ?_)
  · intro y3
    refine me_istore_n (pc' := 25) (i := 3) (L' := [some (.ref 352), some (.int p0), some (.int p1), some (.int y3)]) dX11_takeStock_24 rfl rfl (Nat.le_of_ble_eq_true rfl) (Nat.le_of_ble_eq_true rfl) rfl ?_
    refine me_aload_n (pc' := 26) (i := 0) dX11_takeStock_25 rfl rfl rfl ?_
    refine me_aload_n (pc' := 27) (i := 0) dX11_takeStock_26 rfl rfl rfl ?_
    refine me_iload_n (pc' := 28) (i := 1) dX11_takeStock_27 rfl rfl rfl ?_
    refine me_callV (As := [.int p0]) (st := [.ref 352]) (F' := (mm_Sq q)) (G' := (mm_Sq q)) (F'' := (mm_Sq q)) (pc' := 31) dX11_takeStock_28 rfl mfX11_isBatch rfl lkX11_241 kd_352 rfl (mm_ltm kd_352 hN) ⟨Nat.le_of_ble_eq_true rfl, Nat.le_of_ble_eq_true rfl⟩ (Nat.le_of_ble_eq_true rfl) (fun z => z) (rX11_isBatch (q := q) p0 h hN) (fun x5 e6 => Or.inl ⟨_, _, rfl, fun z => z, ?_⟩)
    show mm_E2 _ _ _ _ _ [.int (mx_bi x5), .ref 352] h _ _
    refine mm_jnI (fun (j99 : Int32 → Option (Int32 × mm_H)) => ∀ (y7 : Int32), mm_E2 (mm_Sq q) (mm_Sq q) mX11_takeStock 39 [some (.ref 352), some (.int p0), some (.int p1), some (.int y3)] [.int y7, .ref 352] h (j99 y7) lf_ie) ?_ (fun j9 j9p => ?_)
    · intro y7
      refine me_iload_n (pc' := 40) (i := 2) dX11_takeStock_39 rfl rfl rfl ?_
      refine me_iconst (pc' := 41) (v := 0) dX11_takeStock_40 rfl kc_i0 ?_
      refine me_sipush (pc' := 44) (v := 999) dX11_takeStock_41 rfl kc_s999 ?_
      refine me_callS (As := [.int p1, .int 0, .int 999]) (st := [.int y7, .ref 352]) (F' := (mm_Sq q)) (G' := (mm_Sq q)) (F'' := (mm_Sq q)) (pc' := 47) dX11_takeStock_44 rfl mfX11_in rfl lkX11_75 ⟨Nat.le_of_ble_eq_true rfl, Nat.le_of_ble_eq_true rfl⟩ (Nat.le_of_ble_eq_true rfl) (fun z => z) (rX11_in (q := q) p1 0 999 h hN) (fun x10 e11 => Or.inl ⟨_, _, rfl, fun z => z, ?_⟩)
      show mm_E2 _ _ _ _ _ [.int (mx_bi x10), .int y7, .ref 352] h _ _
      refine mm_jnI (fun (j159 : Int32 → Int32 → Option (Int32 × mm_H)) => ∀ (y12 : Int32) (y13 : Int32), mm_E2 (mm_Sq q) (mm_Sq q) mX11_takeStock 55 [some (.ref 352), some (.int p0), some (.int p1), some (.int y3)] [.int y12, .int y13, .ref 352] h (j159 y12 y13) lf_ie) ?_ (fun j15 j15p => ?_)
      · intro y12 y13
        refine me_iload_n (pc' := 56) (i := 3) dX11_takeStock_55 rfl rfl rfl ?_
        refine mm_jnI (fun (j209 : Int32 → Int32 → Int32 → Option (Int32 × mm_H)) => ∀ (y16 : Int32) (y17 : Int32) (y18 : Int32), mm_E2 (mm_Sq q) (mm_Sq q) mX11_takeStock 73 [some (.ref 352), some (.int p0), some (.int p1), none] [.int y16, .int y17, .int y18, .ref 352] h (j209 y16 y17 y18) lf_ie) ?_ (fun j20 j20p => ?_)
        · intro y16 y17 y18
          refine me_callV (As := [.int y18, .int y17, .int y16]) (st := []) (F' := (mm_Sq q)) (G' := (mm_Sq q)) (F'' := (mm_Sq q)) (pc' := 76) dX11_takeStock_73 rfl mfX11_fails rfl lkX11_143 kd_352 rfl (mm_ltm kd_352 hN) ⟨Nat.le_of_ble_eq_true rfl, Nat.le_of_ble_eq_true rfl⟩ (Nat.le_of_ble_eq_true rfl) (fun z => z) (rX11_fails (q := q) y18 y17 y16 h hN) (fun x21 e22 => Or.inl ⟨_, _, rfl, fun z => z, ?_⟩)
          show mm_E2 _ _ _ _ _ [.int (mx_bi x21.1)] x21.2 _ _
          refine me_ifB_eq (pc' := 79) (tgt := 81) dX11_takeStock_76 (by decide) rfl (fun c23 => ?_) (fun c23 => ?_)
          · refine me_aload_n (pc' := 82) (i := 0) dX11_takeStock_81 rfl rfl rfl ?_
            refine me_iconst (pc' := 83) (v := 0) dX11_takeStock_82 rfl kc_i0 ?_
            refine me_callV (As := [.int 0]) (st := []) (F' := (mm_Sq q)) (G' := (mm_Sq q)) (F'' := (mm_Sq q)) (pc' := 86) dX11_takeStock_83 rfl mfX11_remember rfl lkX11_271 kd_352 rfl (mm_ltm kd_352 hN) ⟨Nat.le_of_ble_eq_true rfl, Nat.le_of_ble_eq_true rfl⟩ (Nat.le_of_ble_eq_true rfl) (fun z => z) (rX11_remember (q := q) 0 x21.2 hN) (fun h24 e25 => Or.inl ⟨_, _, rfl, fun z => z, ?_⟩)
            show mm_E2 _ _ _ _ _ [] h24 _ _
            refine me_aload_n (pc' := 87) (i := 0) dX11_takeStock_86 rfl rfl rfl ?_
            refine me_iload_n (pc' := 88) (i := 1) dX11_takeStock_87 rfl rfl rfl ?_
            refine me_iload_n (pc' := 89) (i := 2) dX11_takeStock_88 rfl rfl rfl ?_
            refine me_callV (As := [.int p0, .int p1]) (st := []) (F' := (mm_Sq q)) (G' := (mm_Sq q)) (F'' := (mm_Sq q)) (pc' := 92) dX11_takeStock_89 rfl mfX11_countIt rfl lkX11_259 kd_352 rfl (mm_ltm kd_352 hN) ⟨Nat.le_of_ble_eq_true rfl, Nat.le_of_ble_eq_true rfl⟩ (Nat.le_of_ble_eq_true rfl) (fun z => z) (rX11_countIt (q := q) p0 p1 h24 hN) (fun x26 e27 => Or.inl ⟨_, _, rfl, fun z => z, ?_⟩)
            show mm_E2 _ _ _ _ _ [.int x26.1] x26.2 _ _
            exact me_iret dX11_takeStock_92 rfl (fun z => z) rfl
          · refine me_iconst (pc' := 80) (v := 0) dX11_takeStock_79 rfl kc_i0 ?_
            exact me_iret dX11_takeStock_80 rfl (fun z => z) rfl
        refine mm_jnI (fun (j319 : Int32 → Int32 → Option (Int32 × mm_H)) => ∀ (y28 : Int32) (y29 : Int32), mm_E2 (mm_Sq q) (mm_Sq q) mX11_takeStock 72 [some (.ref 352), some (.int p0), some (.int p1), none] [.int y28, .int y29, .ref 352] h (j319 y28 y29) lf_ie) ?_ (fun j31 j31p => ?_)
        · intro y28 y29
          refine me_iconst (pc' := 73) (v := 0) dX11_takeStock_72 rfl kc_i0 ?_
          exact j20p 0 y28 y29
        refine me_if_eq (pc' := 59) (tgt := 72) dX11_takeStock_56 (by decide) rfl (fun c32 => ?_) (fun c32 => ?_)
        · exact mm_maskB [true, true, true, false] (j31p y12 y13)
        · refine me_iload_n (pc' := 60) (i := 2) dX11_takeStock_59 rfl rfl rfl ?_
          refine me_aload_n (pc' := 61) (i := 0) dX11_takeStock_60 rfl rfl rfl ?_
          refine me_iload_n (pc' := 62) (i := 1) dX11_takeStock_61 rfl rfl rfl ?_
          refine me_callV (As := [.int p0]) (st := [.int p1, .int y12, .int y13, .ref 352]) (F' := (mm_Sq q)) (G' := (mm_Sq q)) (F'' := (mm_Sq q)) (pc' := 65) dX11_takeStock_62 rfl mfX11_held rfl lkX11_94 kd_352 rfl (mm_ltm kd_352 hN) ⟨Nat.le_of_ble_eq_true rfl, Nat.le_of_ble_eq_true rfl⟩ (Nat.le_of_ble_eq_true rfl) (fun z => z) (rX11_held (q := q) p0 h hN) (fun x33 e34 => Or.inl ⟨_, _, rfl, fun z => z, ?_⟩)
          show mm_E2 _ _ _ _ _ [.int x33, .int p1, .int y12, .int y13, .ref 352] h _ _
          refine me_icmp_ge (pc' := 68) (tgt := 72) dX11_takeStock_65 (by decide) rfl (fun c35 => ?_) (fun c35 => ?_)
          · exact mm_maskB [true, true, true, false] (j31p y12 y13)
          · refine me_iconst (pc' := 69) (v := 1) dX11_takeStock_68 rfl kc_i1 ?_
            refine me_goto (tgt := 73) dX11_takeStock_69 (by decide) ?_
            exact mm_maskB [true, true, true, false] (j20p 1 y12 y13)
      refine me_ifB_ne (pc' := 50) (tgt := 54) dX11_takeStock_47 (by decide) rfl (fun c36 => ?_) (fun c36 => ?_)
      · refine me_iconst (pc' := 55) (v := 0) dX11_takeStock_54 rfl kc_i0 ?_
        exact j15p 0 y7
      · refine me_iconst (pc' := 51) (v := 1) dX11_takeStock_50 rfl kc_i1 ?_
        refine me_goto (tgt := 55) dX11_takeStock_51 (by decide) ?_
        exact j15p 1 y7
    refine me_ifB_ne (pc' := 34) (tgt := 38) dX11_takeStock_31 (by decide) rfl (fun c37 => ?_) (fun c37 => ?_)
    · refine me_iconst (pc' := 39) (v := 0) dX11_takeStock_38 rfl kc_i0 ?_
      exact j9p 0
    · refine me_iconst (pc' := 35) (v := 1) dX11_takeStock_34 rfl kc_i1 ?_
      refine me_goto (tgt := 39) dX11_takeStock_35 (by decide) ?_
      exact j9p 1
  refine mm_jnI (fun (j389 : Unit → Option (Int32 × mm_H)) => ∀ (_ : Unit), mm_E2 (mm_Sq q) (mm_Sq q) mX11_takeStock 23 [some (.ref 352), some (.int p0), some (.int p1), none] [] h (j389 ()) lf_ie) ?_ (fun j38 j38p => ?_)
  · intro _
    refine me_iconst (pc' := 24) (v := 0) dX11_takeStock_23 rfl kc_i0 ?_
    exact j4p 0
  refine me_ifB_eq (pc' := 8) (tgt := 23) dX11_takeStock_5 (by decide) rfl (fun c39 => ?_) (fun c39 => ?_)
  · exact j38p ()
  · refine me_iload_n (pc' := 9) (i := 2) dX11_takeStock_8 rfl rfl rfl ?_
    refine me_iconst (pc' := 10) (v := 0) dX11_takeStock_9 rfl kc_i0 ?_
    refine me_sipush (pc' := 13) (v := 999) dX11_takeStock_10 rfl kc_s999 ?_
    refine me_callS (As := [.int p1, .int 0, .int 999]) (st := []) (F' := (mm_Sq q)) (G' := (mm_Sq q)) (F'' := (mm_Sq q)) (pc' := 16) dX11_takeStock_13 rfl mfX11_in rfl lkX11_75 ⟨Nat.le_of_ble_eq_true rfl, Nat.le_of_ble_eq_true rfl⟩ (Nat.le_of_ble_eq_true rfl) (fun z => z) (rX11_in (q := q) p1 0 999 h hN) (fun x40 e41 => Or.inl ⟨_, _, rfl, fun z => z, ?_⟩)
    show mm_E2 _ _ _ _ _ [.int (mx_bi x40)] h _ _
    refine me_ifB_eq (pc' := 19) (tgt := 23) dX11_takeStock_16 (by decide) rfl (fun c42 => ?_) (fun c42 => ?_)
    · exact j38p ()
    · refine me_iconst (pc' := 20) (v := 1) dX11_takeStock_19 rfl kc_i1 ?_
      refine me_goto (tgt := 24) dX11_takeStock_20 (by decide) ?_
      exact j4p 1
def gX11_writeOffExpired (h : mm_H) : Option (Int32 × mm_H) :=
(some (ms_I h 352 9 0)).bind (fun (h1 : mm_H) =>
(gX11_remember 0 h1).bind (fun (h2 : mm_H) =>
(gX11_writeOff h2).bind (fun (x4 : (Int32 × mm_H)) =>
some (x4.1, x4.2))))
theorem rX11_writeOffExpired {q : Nat × Nat} (h : mm_H) (hN : 358 ≤ q.1) : mm_R2 (mm_Sq q) (mm_Sq q) mX11_writeOffExpired [.ref 352] h (gX11_writeOffExpired h) lf_ie := by
  refine mm_body (L := [some (.ref 352)]) rfl (by decide +kernel) (Nat.le_of_ble_eq_true rfl) rfl ?_
  unfold gX11_writeOffExpired
  refine me_aload_n (pc' := 1) (i := 0) dX11_writeOffExpired_0 rfl rfl rfl ?_
  refine me_iconst (pc' := 2) (v := 0) dX11_writeOffExpired_1 rfl kc_i0 ?_
  refine me_putI (F' := (mm_Sq q)) (pc' := 5) dX11_writeOffExpired_2 rfl fkX11_1 kd_352 (mm_ltm kd_352 hN) rfl pgX11_9 (fun z => z) ?_
  refine mm_bnd (ms_I h 352 9 0) (fun _ => [some (.ref 352)]) (fun _ => []) (fun h1 => h1) (fun h1 => ?_)
  refine me_aload_n (pc' := 6) (i := 0) dX11_writeOffExpired_5 rfl rfl rfl ?_
  refine me_iconst (pc' := 7) (v := 0) dX11_writeOffExpired_6 rfl kc_i0 ?_
  refine me_callV (As := [.int 0]) (st := []) (F' := (mm_Sq q)) (G' := (mm_Sq q)) (F'' := (mm_Sq q)) (pc' := 10) dX11_writeOffExpired_7 rfl mfX11_remember rfl lkX11_271 kd_352 rfl (mm_ltm kd_352 hN) ⟨Nat.le_of_ble_eq_true rfl, Nat.le_of_ble_eq_true rfl⟩ (Nat.le_of_ble_eq_true rfl) (fun z => z) (rX11_remember (q := q) 0 h1 hN) (fun h2 e3 => Or.inl ⟨_, _, rfl, fun z => z, ?_⟩)
  show mm_E2 _ _ _ _ _ [] h2 _ _
  refine me_aload_n (pc' := 11) (i := 0) dX11_writeOffExpired_10 rfl rfl rfl ?_
  refine me_callV (As := []) (st := []) (F' := (mm_Sq q)) (G' := (mm_Sq q)) (F'' := (mm_Sq q)) (pc' := 14) dX11_writeOffExpired_11 rfl mfX11_writeOff rfl lkX11_262 kd_352 rfl (mm_ltm kd_352 hN) ⟨Nat.le_of_ble_eq_true rfl, Nat.le_of_ble_eq_true rfl⟩ (Nat.le_of_ble_eq_true rfl) (fun z => z) (rX11_writeOff (q := q) h2 hN) (fun x4 e5 => Or.inl ⟨_, _, rfl, fun z => z, ?_⟩)
  show mm_E2 _ _ _ _ _ [.int x4.1] x4.2 _ _
  exact me_iret dX11_writeOffExpired_14 rfl (fun z => z) rfl
def gX11_passDays (p0 : Int32) (h : mm_H) : Option (Int32 × mm_H) :=
(gX11_in p0 1 999 h).bind (fun (x1 : Bool) =>
mm_jn (fun (y3 : Int32) =>
mm_jn (fun (y6 : Int32) (y7 : Int32) =>
(gX11_fails y7 y6 0 h).bind (fun (x10 : (Bool × mm_H)) =>
if x10.1 = true then
some (0, x10.2)
else
(gX11_remember 0 x10.2).bind (fun (h13 : mm_H) =>
(gX11_daysIt p0 h13).bind (fun (x15 : (Int32 × mm_H)) =>
some (x15.1, x15.2))))) (fun (j9 : Int32 → Int32 → Option (Int32 × mm_H)) =>
mm_jn (fun (y17 : Int32) =>
j9 0 y17) (fun (j19 : Int32 → Option (Int32 × mm_H)) =>
if x1 = true then
if mm_ibd 0 4200 = true then
if 9999 < ((mh_I h 353 (Int32.toNatClampNeg (0))) + p0) then
j9 1 y3
else
j19 y3 else none
else
j19 y3))) (fun (j5 : Int32 → Option (Int32 × mm_H)) =>
if x1 = true then
j5 0
else
j5 1))
theorem rX11_passDays {q : Nat × Nat} (p0 : Int32) (h : mm_H) (hN : 358 ≤ q.1) : mm_R2 (mm_Sq q) (mm_Sq q) mX11_passDays [.ref 352, .int p0] h (gX11_passDays p0 h) lf_ie := by
  refine mm_body (L := [some (.ref 352), some (.int p0), none]) rfl (by decide +kernel) (Nat.le_of_ble_eq_true rfl) rfl ?_
  unfold gX11_passDays
  refine me_iload_n (pc' := 1) (i := 1) dX11_passDays_0 rfl rfl rfl ?_
  refine me_iconst (pc' := 2) (v := 1) dX11_passDays_1 rfl kc_i1 ?_
  refine me_sipush (pc' := 5) (v := 999) dX11_passDays_2 rfl kc_s999 ?_
  refine me_callS (As := [.int p0, .int 1, .int 999]) (st := []) (F' := (mm_Sq q)) (G' := (mm_Sq q)) (F'' := (mm_Sq q)) (pc' := 8) dX11_passDays_5 rfl mfX11_in rfl lkX11_75 ⟨Nat.le_of_ble_eq_true rfl, Nat.le_of_ble_eq_true rfl⟩ (Nat.le_of_ble_eq_true rfl) (fun z => z) (rX11_in (q := q) p0 1 999 h hN) (fun x1 e2 => Or.inl ⟨_, _, rfl, fun z => z, ?_⟩)
  show mm_E2 _ _ _ _ _ [.int (mx_bi x1)] h _ _
  refine me_istore_n (pc' := 9) (i := 2) (L' := [some (.ref 352), some (.int p0), some (.int (mx_bi x1))]) dX11_passDays_8 rfl rfl (Nat.le_of_ble_eq_true rfl) (Nat.le_of_ble_eq_true rfl) rfl ?_
  refine me_aload_n (pc' := 10) (i := 0) dX11_passDays_9 rfl rfl rfl ?_
  refine me_iload_n (pc' := 11) (i := 2) dX11_passDays_10 rfl rfl rfl ?_
  refine mm_jnI (fun (j59 : Int32 → Option (Int32 × mm_H)) => ∀ (y3 : Int32), mm_E2 (mm_Sq q) (mm_Sq q) mX11_passDays 19 [some (.ref 352), some (.int p0), some (.int (mx_bi x1))] [.int y3, .ref 352] h (j59 y3) lf_ie) ?_ (fun j5 j5p => ?_)
  · intro y3
    refine me_iload_n (pc' := 20) (i := 2) dX11_passDays_19 rfl rfl rfl ?_
    refine mm_jnI (fun (j99 : Int32 → Int32 → Option (Int32 × mm_H)) => ∀ (y6 : Int32) (y7 : Int32), mm_E2 (mm_Sq q) (mm_Sq q) mX11_passDays 42 [some (.ref 352), some (.int p0), none] [.int y6, .int y7, .ref 352] h (j99 y6 y7) lf_ie) ?_ (fun j9 j9p => ?_)
    · intro y6 y7
      refine me_iconst (pc' := 43) (v := 0) dX11_passDays_42 rfl kc_i0 ?_
      refine me_callV (As := [.int y7, .int y6, .int 0]) (st := []) (F' := (mm_Sq q)) (G' := (mm_Sq q)) (F'' := (mm_Sq q)) (pc' := 46) dX11_passDays_43 rfl mfX11_fails rfl lkX11_143 kd_352 rfl (mm_ltm kd_352 hN) ⟨Nat.le_of_ble_eq_true rfl, Nat.le_of_ble_eq_true rfl⟩ (Nat.le_of_ble_eq_true rfl) (fun z => z) (rX11_fails (q := q) y7 y6 0 h hN) (fun x10 e11 => Or.inl ⟨_, _, rfl, fun z => z, ?_⟩)
      show mm_E2 _ _ _ _ _ [.int (mx_bi x10.1)] x10.2 _ _
      refine me_ifB_eq (pc' := 49) (tgt := 51) dX11_passDays_46 (by decide) rfl (fun c12 => ?_) (fun c12 => ?_)
      · refine me_aload_n (pc' := 52) (i := 0) dX11_passDays_51 rfl rfl rfl ?_
        refine me_iconst (pc' := 53) (v := 0) dX11_passDays_52 rfl kc_i0 ?_
        refine me_callV (As := [.int 0]) (st := []) (F' := (mm_Sq q)) (G' := (mm_Sq q)) (F'' := (mm_Sq q)) (pc' := 56) dX11_passDays_53 rfl mfX11_remember rfl lkX11_271 kd_352 rfl (mm_ltm kd_352 hN) ⟨Nat.le_of_ble_eq_true rfl, Nat.le_of_ble_eq_true rfl⟩ (Nat.le_of_ble_eq_true rfl) (fun z => z) (rX11_remember (q := q) 0 x10.2 hN) (fun h13 e14 => Or.inl ⟨_, _, rfl, fun z => z, ?_⟩)
        show mm_E2 _ _ _ _ _ [] h13 _ _
        refine me_aload_n (pc' := 57) (i := 0) dX11_passDays_56 rfl rfl rfl ?_
        refine me_iload_n (pc' := 58) (i := 1) dX11_passDays_57 rfl rfl rfl ?_
        refine me_callV (As := [.int p0]) (st := []) (F' := (mm_Sq q)) (G' := (mm_Sq q)) (F'' := (mm_Sq q)) (pc' := 61) dX11_passDays_58 rfl mfX11_daysIt rfl lkX11_265 kd_352 rfl (mm_ltm kd_352 hN) ⟨Nat.le_of_ble_eq_true rfl, Nat.le_of_ble_eq_true rfl⟩ (Nat.le_of_ble_eq_true rfl) (fun z => z) (rX11_daysIt (q := q) p0 h13 hN) (fun x15 e16 => Or.inl ⟨_, _, rfl, fun z => z, ?_⟩)
        show mm_E2 _ _ _ _ _ [.int x15.1] x15.2 _ _
        exact me_iret dX11_passDays_61 rfl (fun z => z) rfl
      · refine me_iconst (pc' := 50) (v := 0) dX11_passDays_49 rfl kc_i0 ?_
        exact me_iret dX11_passDays_50 rfl (fun z => z) rfl
    refine mm_jnI (fun (j199 : Int32 → Option (Int32 × mm_H)) => ∀ (y17 : Int32), mm_E2 (mm_Sq q) (mm_Sq q) mX11_passDays 41 [some (.ref 352), some (.int p0), none] [.int y17, .ref 352] h (j199 y17) lf_ie) ?_ (fun j19 j19p => ?_)
    · intro y17
      refine me_iconst (pc' := 42) (v := 0) dX11_passDays_41 rfl kc_i0 ?_
      exact j9p 0 y17
    refine me_ifB_eq (pc' := 23) (tgt := 41) dX11_passDays_20 (by decide) rfl (fun c20 => ?_) (fun c20 => ?_)
    · exact mm_maskB [true, true, false] (j19p y3)
    · refine me_aload_n (pc' := 24) (i := 0) dX11_passDays_23 rfl rfl rfl ?_
      refine me_getR (pc' := 27) (q' := 353) dX11_passDays_24 rfl fkX11_13 kd_352 (mm_ltm kd_352 hN) rfl (mrX11_0 hN) ?_
      refine me_iconst (pc' := 28) (v := 0) dX11_passDays_27 rfl kc_i0 ?_
      refine mm_guard (fun c21 => ?_)
      refine me_iald (pc' := 29) dX11_passDays_28 rfl kd_353 (mm_ltm kd_353 hN) (mm_ibd_of c21) ?_
      refine me_iload_n (pc' := 30) (i := 1) dX11_passDays_29 rfl rfl rfl ?_
      refine me_iadd (pc' := 31) dX11_passDays_30 rfl ?_
      refine me_sipush (pc' := 34) (v := 9999) dX11_passDays_31 rfl kc_s9999 ?_
      refine me_icmp_le (pc' := 37) (tgt := 41) dX11_passDays_34 (by decide) rfl (fun c22 => ?_) (fun c22 => ?_)
      · exact mm_maskB [true, true, false] (j19p y3)
      · refine me_iconst (pc' := 38) (v := 1) dX11_passDays_37 rfl kc_i1 ?_
        refine me_goto (tgt := 42) dX11_passDays_38 (by decide) ?_
        exact mm_maskB [true, true, false] (j9p 1 y3)
  refine me_ifB_ne (pc' := 14) (tgt := 18) dX11_passDays_11 (by decide) rfl (fun c23 => ?_) (fun c23 => ?_)
  · refine me_iconst (pc' := 19) (v := 0) dX11_passDays_18 rfl kc_i0 ?_
    exact j5p 0
  · refine me_iconst (pc' := 15) (v := 1) dX11_passDays_14 rfl kc_i1 ?_
    refine me_goto (tgt := 19) dX11_passDays_15 (by decide) ?_
    exact j5p 1
def gX11_undo (h : mm_H) : Option (Int32 × mm_H) :=
mm_jn (fun (y1 : Int32) =>
(gX11_fails y1 0 0 h).bind (fun (x4 : (Bool × mm_H)) =>
if x4.1 = true then
some (0, x4.2)
else
(gX11_copyBlock ((mh_I x4.2 352 2)) 0 x4.2).bind (fun (h7 : mm_H) =>
(some (ms_I h7 352 2 (((mh_I h7 352 2) - 1)))).bind (fun (h9 : mm_H) =>
some ((mh_I h9 352 2), h9))))) (fun (j3 : Int32 → Option (Int32 × mm_H)) =>
if (mh_I h 352 2) = 0 then
j3 1
else
j3 0)
theorem rX11_undo {q : Nat × Nat} (h : mm_H) (hN : 358 ≤ q.1) : mm_R2 (mm_Sq q) (mm_Sq q) mX11_undo [.ref 352] h (gX11_undo h) lf_ie := by
  refine mm_body (L := [some (.ref 352)]) rfl (by decide +kernel) (Nat.le_of_ble_eq_true rfl) rfl ?_
  unfold gX11_undo
  refine me_aload_n (pc' := 1) (i := 0) dX11_undo_0 rfl rfl rfl ?_
  refine me_aload_n (pc' := 2) (i := 0) dX11_undo_1 rfl rfl rfl ?_
  refine me_getI (pc' := 5) dX11_undo_2 rfl fkX11_21 kd_352 (mm_ltm kd_352 hN) rfl ?_
  refine mm_jnI (fun (j39 : Int32 → Option (Int32 × mm_H)) => ∀ (y1 : Int32), mm_E2 (mm_Sq q) (mm_Sq q) mX11_undo 13 [some (.ref 352)] [.int y1, .ref 352] h (j39 y1) lf_ie) ?_ (fun j3 j3p => ?_)
  · intro y1
    refine me_iconst (pc' := 14) (v := 0) dX11_undo_13 rfl kc_i0 ?_
    refine me_iconst (pc' := 15) (v := 0) dX11_undo_14 rfl kc_i0 ?_
    refine me_callV (As := [.int y1, .int 0, .int 0]) (st := []) (F' := (mm_Sq q)) (G' := (mm_Sq q)) (F'' := (mm_Sq q)) (pc' := 18) dX11_undo_15 rfl mfX11_fails rfl lkX11_143 kd_352 rfl (mm_ltm kd_352 hN) ⟨Nat.le_of_ble_eq_true rfl, Nat.le_of_ble_eq_true rfl⟩ (Nat.le_of_ble_eq_true rfl) (fun z => z) (rX11_fails (q := q) y1 0 0 h hN) (fun x4 e5 => Or.inl ⟨_, _, rfl, fun z => z, ?_⟩)
    show mm_E2 _ _ _ _ _ [.int (mx_bi x4.1)] x4.2 _ _
    refine me_ifB_eq (pc' := 21) (tgt := 23) dX11_undo_18 (by decide) rfl (fun c6 => ?_) (fun c6 => ?_)
    · refine me_aload_n (pc' := 24) (i := 0) dX11_undo_23 rfl rfl rfl ?_
      refine me_aload_n (pc' := 25) (i := 0) dX11_undo_24 rfl rfl rfl ?_
      refine me_getI (pc' := 28) dX11_undo_25 rfl fkX11_21 kd_352 (mm_ltm kd_352 hN) rfl ?_
      refine me_iconst (pc' := 29) (v := 0) dX11_undo_28 rfl kc_i0 ?_
      refine me_callV (As := [.int (mh_I x4.2 352 2), .int 0]) (st := []) (F' := (mm_Sq q)) (G' := (mm_Sq q)) (F'' := (mm_Sq q)) (pc' := 32) dX11_undo_29 rfl mfX11_copyBlock rfl lkX11_79 kd_352 rfl (mm_ltm kd_352 hN) ⟨Nat.le_of_ble_eq_true rfl, Nat.le_of_ble_eq_true rfl⟩ (Nat.le_of_ble_eq_true rfl) (fun z => z) (rX11_copyBlock (q := q) ((mh_I x4.2 352 2)) 0 x4.2 hN) (fun h7 e8 => Or.inl ⟨_, _, rfl, fun z => z, ?_⟩)
      show mm_E2 _ _ _ _ _ [] h7 _ _
      refine me_aload_n (pc' := 33) (i := 0) dX11_undo_32 rfl rfl rfl ?_
      refine me_dup (pc' := 34) dX11_undo_33 rfl rfl ?_
      refine me_getI (pc' := 37) dX11_undo_34 rfl fkX11_21 kd_352 (mm_ltm kd_352 hN) rfl ?_
      refine me_iconst (pc' := 38) (v := 1) dX11_undo_37 rfl kc_i1 ?_
      refine me_isub (pc' := 39) dX11_undo_38 rfl ?_
      refine me_putI (F' := (mm_Sq q)) (pc' := 42) dX11_undo_39 rfl fkX11_21 kd_352 (mm_ltm kd_352 hN) rfl pgX11_2 (fun z => z) ?_
      refine mm_bnd (ms_I h7 352 2 (((mh_I h7 352 2) - 1))) (fun _ => [some (.ref 352)]) (fun _ => []) (fun h9 => h9) (fun h9 => ?_)
      refine me_aload_n (pc' := 43) (i := 0) dX11_undo_42 rfl rfl rfl ?_
      refine me_getI (pc' := 46) dX11_undo_43 rfl fkX11_21 kd_352 (mm_ltm kd_352 hN) rfl ?_
      exact me_iret dX11_undo_46 rfl (fun z => z) rfl
    · refine me_iconst (pc' := 22) (v := 0) dX11_undo_21 rfl kc_i0 ?_
      exact me_iret dX11_undo_22 rfl (fun z => z) rfl
  refine me_if_ne (pc' := 8) (tgt := 12) dX11_undo_5 (by decide) rfl (fun c10 => ?_) (fun c10 => ?_)
  · refine me_iconst (pc' := 13) (v := 0) dX11_undo_12 rfl kc_i0 ?_
    exact j3p 0
  · refine me_iconst (pc' := 9) (v := 1) dX11_undo_8 rfl kc_i1 ?_
    refine me_goto (tgt := 13) dX11_undo_9 (by decide) ?_
    exact j3p 1
def gX11_save (p0 : Int32) (h : mm_H) : Option (Int32 × mm_H) :=
(gX11_in p0 0 1 h).bind (fun (x1 : Bool) =>
mm_jn (fun (y3 : Int32) =>
(gX11_fails y3 0 0 h).bind (fun (x6 : (Bool × mm_H)) =>
if x6.1 = true then
some (0, x6.2)
else
(gX11_copyBlock 0 ((7 + p0)) x6.2).bind (fun (h9 : mm_H) =>
if mm_ibd p0 2 = true then
(some (ms_I h9 354 (Int32.toNatClampNeg (p0)) 1)).bind (fun (h12 : mm_H) =>
if mm_ibd 0 4200 = true then
some ((mh_I h12 353 (Int32.toNatClampNeg (0))), h12) else none) else none))) (fun (j5 : Int32 → Option (Int32 × mm_H)) =>
if x1 = true then
j5 0
else
j5 1))
theorem rX11_save {q : Nat × Nat} (p0 : Int32) (h : mm_H) (hN : 358 ≤ q.1) : mm_R2 (mm_Sq q) (mm_Sq q) mX11_save [.ref 352, .int p0] h (gX11_save p0 h) lf_ie := by
  refine mm_body (L := [some (.ref 352), some (.int p0)]) rfl (by decide +kernel) (Nat.le_of_ble_eq_true rfl) rfl ?_
  unfold gX11_save
  refine me_aload_n (pc' := 1) (i := 0) dX11_save_0 rfl rfl rfl ?_
  refine me_iload_n (pc' := 2) (i := 1) dX11_save_1 rfl rfl rfl ?_
  refine me_iconst (pc' := 3) (v := 0) dX11_save_2 rfl kc_i0 ?_
  refine me_iconst (pc' := 4) (v := 1) dX11_save_3 rfl kc_i1 ?_
  refine me_callS (As := [.int p0, .int 0, .int 1]) (st := [.ref 352]) (F' := (mm_Sq q)) (G' := (mm_Sq q)) (F'' := (mm_Sq q)) (pc' := 7) dX11_save_4 rfl mfX11_in rfl lkX11_75 ⟨Nat.le_of_ble_eq_true rfl, Nat.le_of_ble_eq_true rfl⟩ (Nat.le_of_ble_eq_true rfl) (fun z => z) (rX11_in (q := q) p0 0 1 h hN) (fun x1 e2 => Or.inl ⟨_, _, rfl, fun z => z, ?_⟩)
  show mm_E2 _ _ _ _ _ [.int (mx_bi x1), .ref 352] h _ _
  refine mm_jnI (fun (j59 : Int32 → Option (Int32 × mm_H)) => ∀ (y3 : Int32), mm_E2 (mm_Sq q) (mm_Sq q) mX11_save 15 [some (.ref 352), some (.int p0)] [.int y3, .ref 352] h (j59 y3) lf_ie) ?_ (fun j5 j5p => ?_)
  · intro y3
    refine me_iconst (pc' := 16) (v := 0) dX11_save_15 rfl kc_i0 ?_
    refine me_iconst (pc' := 17) (v := 0) dX11_save_16 rfl kc_i0 ?_
    refine me_callV (As := [.int y3, .int 0, .int 0]) (st := []) (F' := (mm_Sq q)) (G' := (mm_Sq q)) (F'' := (mm_Sq q)) (pc' := 20) dX11_save_17 rfl mfX11_fails rfl lkX11_143 kd_352 rfl (mm_ltm kd_352 hN) ⟨Nat.le_of_ble_eq_true rfl, Nat.le_of_ble_eq_true rfl⟩ (Nat.le_of_ble_eq_true rfl) (fun z => z) (rX11_fails (q := q) y3 0 0 h hN) (fun x6 e7 => Or.inl ⟨_, _, rfl, fun z => z, ?_⟩)
    show mm_E2 _ _ _ _ _ [.int (mx_bi x6.1)] x6.2 _ _
    refine me_ifB_eq (pc' := 23) (tgt := 25) dX11_save_20 (by decide) rfl (fun c8 => ?_) (fun c8 => ?_)
    · refine me_aload_n (pc' := 26) (i := 0) dX11_save_25 rfl rfl rfl ?_
      refine me_iconst (pc' := 27) (v := 0) dX11_save_26 rfl kc_i0 ?_
      refine me_bipush (pc' := 29) (v := 7) dX11_save_27 rfl kc_b7 ?_
      refine me_iload_n (pc' := 30) (i := 1) dX11_save_29 rfl rfl rfl ?_
      refine me_iadd (pc' := 31) dX11_save_30 rfl ?_
      refine me_callV (As := [.int 0, .int (7 + p0)]) (st := []) (F' := (mm_Sq q)) (G' := (mm_Sq q)) (F'' := (mm_Sq q)) (pc' := 34) dX11_save_31 rfl mfX11_copyBlock rfl lkX11_79 kd_352 rfl (mm_ltm kd_352 hN) ⟨Nat.le_of_ble_eq_true rfl, Nat.le_of_ble_eq_true rfl⟩ (Nat.le_of_ble_eq_true rfl) (fun z => z) (rX11_copyBlock (q := q) 0 ((7 + p0)) x6.2 hN) (fun h9 e10 => Or.inl ⟨_, _, rfl, fun z => z, ?_⟩)
      show mm_E2 _ _ _ _ _ [] h9 _ _
      refine me_aload_n (pc' := 35) (i := 0) dX11_save_34 rfl rfl rfl ?_
      refine me_getR (pc' := 38) (q' := 354) dX11_save_35 rfl fkX11_17 kd_352 (mm_ltm kd_352 hN) rfl (mrX11_1 hN) ?_
      refine me_iload_n (pc' := 39) (i := 1) dX11_save_38 rfl rfl rfl ?_
      refine me_iconst (pc' := 40) (v := 1) dX11_save_39 rfl kc_i1 ?_
      refine mm_guard (fun c11 => ?_)
      refine me_zast (F' := (mm_Sq q)) (pc' := 41) (w := 1) dX11_save_40 rfl kd_354 (mm_ltm kd_354 hN) (mm_ibd_of c11) rfl (fun z => z) ?_
      refine mm_bnd (ms_I h9 354 (Int32.toNatClampNeg (p0)) 1) (fun _ => [some (.ref 352), some (.int p0)]) (fun _ => []) (fun h12 => h12) (fun h12 => ?_)
      refine me_aload_n (pc' := 42) (i := 0) dX11_save_41 rfl rfl rfl ?_
      refine me_getR (pc' := 45) (q' := 353) dX11_save_42 rfl fkX11_13 kd_352 (mm_ltm kd_352 hN) rfl (mrX11_0 hN) ?_
      refine me_iconst (pc' := 46) (v := 0) dX11_save_45 rfl kc_i0 ?_
      refine mm_guard (fun c13 => ?_)
      refine me_iald (pc' := 47) dX11_save_46 rfl kd_353 (mm_ltm kd_353 hN) (mm_ibd_of c13) ?_
      exact me_iret dX11_save_47 rfl (fun z => z) rfl
    · refine me_iconst (pc' := 24) (v := 0) dX11_save_23 rfl kc_i0 ?_
      exact me_iret dX11_save_24 rfl (fun z => z) rfl
  refine me_ifB_ne (pc' := 10) (tgt := 14) dX11_save_7 (by decide) rfl (fun c14 => ?_) (fun c14 => ?_)
  · refine me_iconst (pc' := 15) (v := 0) dX11_save_14 rfl kc_i0 ?_
    exact j5p 0
  · refine me_iconst (pc' := 11) (v := 1) dX11_save_10 rfl kc_i1 ?_
    refine me_goto (tgt := 15) dX11_save_11 (by decide) ?_
    exact j5p 1
def gX11_restore (p0 : Int32) (h : mm_H) : Option (Int32 × mm_H) :=
(gX11_in p0 0 1 h).bind (fun (x1 : Bool) =>
mm_jn (fun (y3 : Int32) =>
mm_jn (fun (y6 : Int32) (y7 : Int32) =>
(gX11_fails y7 y6 0 h).bind (fun (x10 : (Bool × mm_H)) =>
if x10.1 = true then
some (0, x10.2)
else
(gX11_copyBlock ((7 + p0)) 0 x10.2).bind (fun (h13 : mm_H) =>
(some (ms_I h13 352 2 0)).bind (fun (h15 : mm_H) =>
if mm_ibd 0 4200 = true then
some ((mh_I h15 353 (Int32.toNatClampNeg (0))), h15) else none)))) (fun (j9 : Int32 → Int32 → Option (Int32 × mm_H)) =>
mm_jn (fun (y17 : Int32) =>
j9 0 y17) (fun (j19 : Int32 → Option (Int32 × mm_H)) =>
if x1 = true then
if mm_ibd p0 2 = true then
if (mh_I h 354 (Int32.toNatClampNeg (p0))) = 0 then
j9 1 y3
else
j19 y3 else none
else
j19 y3))) (fun (j5 : Int32 → Option (Int32 × mm_H)) =>
if x1 = true then
j5 0
else
j5 1))
theorem rX11_restore {q : Nat × Nat} (p0 : Int32) (h : mm_H) (hN : 358 ≤ q.1) : mm_R2 (mm_Sq q) (mm_Sq q) mX11_restore [.ref 352, .int p0] h (gX11_restore p0 h) lf_ie := by
  refine mm_body (L := [some (.ref 352), some (.int p0), none]) rfl (by decide +kernel) (Nat.le_of_ble_eq_true rfl) rfl ?_
  unfold gX11_restore
  refine me_iload_n (pc' := 1) (i := 1) dX11_restore_0 rfl rfl rfl ?_
  refine me_iconst (pc' := 2) (v := 0) dX11_restore_1 rfl kc_i0 ?_
  refine me_iconst (pc' := 3) (v := 1) dX11_restore_2 rfl kc_i1 ?_
  refine me_callS (As := [.int p0, .int 0, .int 1]) (st := []) (F' := (mm_Sq q)) (G' := (mm_Sq q)) (F'' := (mm_Sq q)) (pc' := 6) dX11_restore_3 rfl mfX11_in rfl lkX11_75 ⟨Nat.le_of_ble_eq_true rfl, Nat.le_of_ble_eq_true rfl⟩ (Nat.le_of_ble_eq_true rfl) (fun z => z) (rX11_in (q := q) p0 0 1 h hN) (fun x1 e2 => Or.inl ⟨_, _, rfl, fun z => z, ?_⟩)
  show mm_E2 _ _ _ _ _ [.int (mx_bi x1)] h _ _
  refine me_istore_n (pc' := 7) (i := 2) (L' := [some (.ref 352), some (.int p0), some (.int (mx_bi x1))]) dX11_restore_6 rfl rfl (Nat.le_of_ble_eq_true rfl) (Nat.le_of_ble_eq_true rfl) rfl ?_
  refine me_aload_n (pc' := 8) (i := 0) dX11_restore_7 rfl rfl rfl ?_
  refine me_iload_n (pc' := 9) (i := 2) dX11_restore_8 rfl rfl rfl ?_
  refine mm_jnI (fun (j59 : Int32 → Option (Int32 × mm_H)) => ∀ (y3 : Int32), mm_E2 (mm_Sq q) (mm_Sq q) mX11_restore 17 [some (.ref 352), some (.int p0), some (.int (mx_bi x1))] [.int y3, .ref 352] h (j59 y3) lf_ie) ?_ (fun j5 j5p => ?_)
  · intro y3
    refine me_iload_n (pc' := 18) (i := 2) dX11_restore_17 rfl rfl rfl ?_
    refine mm_jnI (fun (j99 : Int32 → Int32 → Option (Int32 × mm_H)) => ∀ (y6 : Int32) (y7 : Int32), mm_E2 (mm_Sq q) (mm_Sq q) mX11_restore 35 [some (.ref 352), some (.int p0), none] [.int y6, .int y7, .ref 352] h (j99 y6 y7) lf_ie) ?_ (fun j9 j9p => ?_)
    · intro y6 y7
      refine me_iconst (pc' := 36) (v := 0) dX11_restore_35 rfl kc_i0 ?_
      refine me_callV (As := [.int y7, .int y6, .int 0]) (st := []) (F' := (mm_Sq q)) (G' := (mm_Sq q)) (F'' := (mm_Sq q)) (pc' := 39) dX11_restore_36 rfl mfX11_fails rfl lkX11_143 kd_352 rfl (mm_ltm kd_352 hN) ⟨Nat.le_of_ble_eq_true rfl, Nat.le_of_ble_eq_true rfl⟩ (Nat.le_of_ble_eq_true rfl) (fun z => z) (rX11_fails (q := q) y7 y6 0 h hN) (fun x10 e11 => Or.inl ⟨_, _, rfl, fun z => z, ?_⟩)
      show mm_E2 _ _ _ _ _ [.int (mx_bi x10.1)] x10.2 _ _
      refine me_ifB_eq (pc' := 42) (tgt := 44) dX11_restore_39 (by decide) rfl (fun c12 => ?_) (fun c12 => ?_)
      · refine me_aload_n (pc' := 45) (i := 0) dX11_restore_44 rfl rfl rfl ?_
        refine me_bipush (pc' := 47) (v := 7) dX11_restore_45 rfl kc_b7 ?_
        refine me_iload_n (pc' := 48) (i := 1) dX11_restore_47 rfl rfl rfl ?_
        refine me_iadd (pc' := 49) dX11_restore_48 rfl ?_
        refine me_iconst (pc' := 50) (v := 0) dX11_restore_49 rfl kc_i0 ?_
        refine me_callV (As := [.int (7 + p0), .int 0]) (st := []) (F' := (mm_Sq q)) (G' := (mm_Sq q)) (F'' := (mm_Sq q)) (pc' := 53) dX11_restore_50 rfl mfX11_copyBlock rfl lkX11_79 kd_352 rfl (mm_ltm kd_352 hN) ⟨Nat.le_of_ble_eq_true rfl, Nat.le_of_ble_eq_true rfl⟩ (Nat.le_of_ble_eq_true rfl) (fun z => z) (rX11_copyBlock (q := q) ((7 + p0)) 0 x10.2 hN) (fun h13 e14 => Or.inl ⟨_, _, rfl, fun z => z, ?_⟩)
        show mm_E2 _ _ _ _ _ [] h13 _ _
        refine me_aload_n (pc' := 54) (i := 0) dX11_restore_53 rfl rfl rfl ?_
        refine me_iconst (pc' := 55) (v := 0) dX11_restore_54 rfl kc_i0 ?_
        refine me_putI (F' := (mm_Sq q)) (pc' := 58) dX11_restore_55 rfl fkX11_21 kd_352 (mm_ltm kd_352 hN) rfl pgX11_2 (fun z => z) ?_
        refine mm_bnd (ms_I h13 352 2 0) (fun _ => [some (.ref 352), some (.int p0), none]) (fun _ => []) (fun h15 => h15) (fun h15 => ?_)
        refine me_aload_n (pc' := 59) (i := 0) dX11_restore_58 rfl rfl rfl ?_
        refine me_getR (pc' := 62) (q' := 353) dX11_restore_59 rfl fkX11_13 kd_352 (mm_ltm kd_352 hN) rfl (mrX11_0 hN) ?_
        refine me_iconst (pc' := 63) (v := 0) dX11_restore_62 rfl kc_i0 ?_
        refine mm_guard (fun c16 => ?_)
        refine me_iald (pc' := 64) dX11_restore_63 rfl kd_353 (mm_ltm kd_353 hN) (mm_ibd_of c16) ?_
        exact me_iret dX11_restore_64 rfl (fun z => z) rfl
      · refine me_iconst (pc' := 43) (v := 0) dX11_restore_42 rfl kc_i0 ?_
        exact me_iret dX11_restore_43 rfl (fun z => z) rfl
    refine mm_jnI (fun (j199 : Int32 → Option (Int32 × mm_H)) => ∀ (y17 : Int32), mm_E2 (mm_Sq q) (mm_Sq q) mX11_restore 34 [some (.ref 352), some (.int p0), none] [.int y17, .ref 352] h (j199 y17) lf_ie) ?_ (fun j19 j19p => ?_)
    · intro y17
      refine me_iconst (pc' := 35) (v := 0) dX11_restore_34 rfl kc_i0 ?_
      exact j9p 0 y17
    refine me_ifB_eq (pc' := 21) (tgt := 34) dX11_restore_18 (by decide) rfl (fun c20 => ?_) (fun c20 => ?_)
    · exact mm_maskB [true, true, false] (j19p y3)
    · refine me_aload_n (pc' := 22) (i := 0) dX11_restore_21 rfl rfl rfl ?_
      refine me_getR (pc' := 25) (q' := 354) dX11_restore_22 rfl fkX11_17 kd_352 (mm_ltm kd_352 hN) rfl (mrX11_1 hN) ?_
      refine me_iload_n (pc' := 26) (i := 1) dX11_restore_25 rfl rfl rfl ?_
      refine mm_guard (fun c21 => ?_)
      refine me_zald (pc' := 27) dX11_restore_26 rfl kd_354 (mm_ltm kd_354 hN) (mm_ibd_of c21) ?_
      refine me_if_ne (pc' := 30) (tgt := 34) dX11_restore_27 (by decide) rfl (fun c22 => ?_) (fun c22 => ?_)
      · exact mm_maskB [true, true, false] (j19p y3)
      · refine me_iconst (pc' := 31) (v := 1) dX11_restore_30 rfl kc_i1 ?_
        refine me_goto (tgt := 35) dX11_restore_31 (by decide) ?_
        exact mm_maskB [true, true, false] (j9p 1 y3)
  refine me_ifB_ne (pc' := 12) (tgt := 16) dX11_restore_9 (by decide) rfl (fun c23 => ?_) (fun c23 => ?_)
  · refine me_iconst (pc' := 17) (v := 0) dX11_restore_16 rfl kc_i0 ?_
    exact j5p 0
  · refine me_iconst (pc' := 13) (v := 1) dX11_restore_12 rfl kc_i1 ?_
    refine me_goto (tgt := 17) dX11_restore_13 (by decide) ?_
    exact j5p 1
def gX11_put (p0 : Int32) (h : mm_H) : Option mm_H :=
if mm_ibd ((mh_I h 352 8)) 300 = true then
(some (ms_I h 356 (Int32.toNatClampNeg ((mh_I h 352 8))) p0)).bind (fun (h2 : mm_H) =>
(some (ms_I h2 352 8 (((mh_I h2 352 8) + 1)))).bind (fun (h3 : mm_H) =>
some h3)) else none
theorem rX11_put {q : Nat × Nat} (p0 : Int32) (h : mm_H) (hN : 358 ≤ q.1) : mm_R2 (mm_Sq q) (mm_Sq q) mX11_put [.ref 352, .int p0] h (gX11_put p0 h) lf_v := by
  refine mm_body (L := [some (.ref 352), some (.int p0)]) rfl (by decide +kernel) (Nat.le_of_ble_eq_true rfl) rfl ?_
  unfold gX11_put
  refine me_aload_n (pc' := 1) (i := 0) dX11_put_0 rfl rfl rfl ?_
  refine me_getR (pc' := 4) (q' := 356) dX11_put_1 rfl fkX11_36 kd_352 (mm_ltm kd_352 hN) rfl (mrX11_7 hN) ?_
  refine me_aload_n (pc' := 5) (i := 0) dX11_put_4 rfl rfl rfl ?_
  refine me_getI (pc' := 8) dX11_put_5 rfl fkX11_39 kd_352 (mm_ltm kd_352 hN) rfl ?_
  refine me_iload_n (pc' := 9) (i := 1) dX11_put_8 rfl rfl rfl ?_
  refine mm_guard (fun c1 => ?_)
  refine me_iast (F' := (mm_Sq q)) (pc' := 10) dX11_put_9 rfl kd_356 (mm_ltm kd_356 hN) (mm_ibd_of c1) (fun z => z) ?_
  refine mm_bnd (ms_I h 356 (Int32.toNatClampNeg ((mh_I h 352 8))) p0) (fun _ => [some (.ref 352), some (.int p0)]) (fun _ => []) (fun h2 => h2) (fun h2 => ?_)
  refine me_aload_n (pc' := 11) (i := 0) dX11_put_10 rfl rfl rfl ?_
  refine me_dup (pc' := 12) dX11_put_11 rfl rfl ?_
  refine me_getI (pc' := 15) dX11_put_12 rfl fkX11_39 kd_352 (mm_ltm kd_352 hN) rfl ?_
  refine me_iconst (pc' := 16) (v := 1) dX11_put_15 rfl kc_i1 ?_
  refine me_iadd (pc' := 17) dX11_put_16 rfl ?_
  refine me_putI (F' := (mm_Sq q)) (pc' := 20) dX11_put_17 rfl fkX11_39 kd_352 (mm_ltm kd_352 hN) rfl pgX11_8 (fun z => z) ?_
  refine mm_bnd (ms_I h2 352 8 (((mh_I h2 352 8) + 1))) (fun _ => [some (.ref 352), some (.int p0)]) (fun _ => []) (fun h3 => h3) (fun h3 => ?_)
  exact me_vret dX11_put_20 rfl (fun z => z) rfl
def gX11_putNumber_L18 (u5 : Int32) : Nat → Int32 → mm_H → Option mm_H
  | 0, _, _ => none
  | n + 1, w6, h7 =>
    if 0 < w6 then
    if w6 = 0 then none else
    (gX11_put ((48 + ((u5 / w6) - (u5 / w6) / 10 * 10))) h7).bind (fun (h10 : mm_H) =>
    (some ((w6 / 10))).bind (fun (x12 : Int32) =>
    gX11_putNumber_L18 u5 n x12 h10))
    else
    some h7
def gX11_putNumber_L2 (u1 : Int32) (h : mm_H) : Nat → Int32 → Option mm_H
  | 0, _ => none
  | n + 1, w2 =>
    if w2 = 0 then none else
    if (u1 / w2) < 10 then
    gX11_putNumber_L18 u1 mm_F w2 h
    else
    (some ((w2 * 10))).bind (fun (x13 : Int32) =>
    gX11_putNumber_L2 u1 h n x13)
def gX11_putNumber (p0 : Int32) (h : mm_H) : Option mm_H :=
gX11_putNumber_L2 p0 h mm_F 1
theorem rX11_putNumber_L18 {q : Nat × Nat}  (u5 : Int32)    (hN : 358 ≤ q.1) : ∀ (n : Nat) (w6 : Int32) (h7 : mm_H), mm_E2 (mm_Sq q) (mm_Sq q) mX11_putNumber 18 [some (.ref 352), some (.int u5), some (.int w6)] [] h7 (gX11_putNumber_L18 u5  n w6 h7) lf_v := by
  intro n
  induction n with
  | zero =>
    intro w6 h7
    exact mm_none
  | succ n ih =>
    intro w6 h7
    rw [gX11_putNumber_L18]
    refine me_iload_n (pc' := 19) (i := 2) dX11_putNumber_18 rfl rfl rfl ?_
    refine me_if_le (pc' := 22) (tgt := 43) dX11_putNumber_19 (by decide) rfl (fun c8 => ?_) (fun c8 => ?_)
    · exact me_vret dX11_putNumber_43 rfl (fun z => z) rfl
    · refine me_aload_n (pc' := 23) (i := 0) dX11_putNumber_22 rfl rfl rfl ?_
      refine me_bipush (pc' := 25) (v := 48) dX11_putNumber_23 rfl kc_b48 ?_
      refine me_iload_n (pc' := 26) (i := 1) dX11_putNumber_25 rfl rfl rfl ?_
      refine me_iload_n (pc' := 27) (i := 2) dX11_putNumber_26 rfl rfl rfl ?_
      refine mm_if (fun _ => mm_none) (fun c9 => ?_)
      refine me_idiv (pc' := 28) dX11_putNumber_27 rfl c9 ?_
      refine me_bipush (pc' := 30) (v := 10) dX11_putNumber_28 rfl kc_b10 ?_
      refine me_irem (pc' := 31) dX11_putNumber_30 rfl kc_nz10 ?_
      refine me_iadd (pc' := 32) dX11_putNumber_31 rfl ?_
      refine me_callV (As := [.int (48 + ((u5 / w6) - (u5 / w6) / 10 * 10))]) (st := []) (F' := (mm_Sq q)) (G' := (mm_Sq q)) (F'' := (mm_Sq q)) (pc' := 35) dX11_putNumber_32 rfl mfX11_put rfl lkX11_316 kd_352 rfl (mm_ltm kd_352 hN) ⟨Nat.le_of_ble_eq_true rfl, Nat.le_of_ble_eq_true rfl⟩ (Nat.le_of_ble_eq_true rfl) (fun z => z) (rX11_put (q := q) ((48 + ((u5 / w6) - (u5 / w6) / 10 * 10))) h7 hN) (fun h10 e11 => Or.inl ⟨_, _, rfl, fun z => z, ?_⟩)
      show mm_E2 _ _ _ _ _ [] h10 _ _
      refine me_iload_n (pc' := 36) (i := 2) dX11_putNumber_35 rfl rfl rfl ?_
      refine me_bipush (pc' := 38) (v := 10) dX11_putNumber_36 rfl kc_b10 ?_
      refine me_idiv (pc' := 39) dX11_putNumber_38 rfl kc_nz10 ?_
      refine mm_bnd ((w6 / 10)) (fun x12 => [some (.ref 352), some (.int u5), some (.int w6)]) (fun x12 => [.int x12]) (fun _ => h10) (fun x12 => ?_)
      refine me_istore_n (pc' := 40) (i := 2) (L' := [some (.ref 352), some (.int u5), some (.int x12)]) dX11_putNumber_39 rfl rfl (Nat.le_of_ble_eq_true rfl) (Nat.le_of_ble_eq_true rfl) rfl ?_
      refine me_goto (tgt := 18) dX11_putNumber_40 (by decide) ?_
      exact ih x12 h10
theorem rX11_putNumber_L2 {q : Nat × Nat}  (u1 : Int32)  (h : mm_H)  (hN : 358 ≤ q.1) : ∀ (n : Nat) (w2 : Int32), mm_E2 (mm_Sq q) (mm_Sq q) mX11_putNumber 2 [some (.ref 352), some (.int u1), some (.int w2)] [] h (gX11_putNumber_L2 u1 h n w2) lf_v := by
  intro n
  induction n with
  | zero =>
    intro w2
    exact mm_none
  | succ n ih =>
    intro w2
    rw [gX11_putNumber_L2]
    refine me_iload_n (pc' := 3) (i := 1) dX11_putNumber_2 rfl rfl rfl ?_
    refine me_iload_n (pc' := 4) (i := 2) dX11_putNumber_3 rfl rfl rfl ?_
    refine mm_if (fun _ => mm_none) (fun c3 => ?_)
    refine me_idiv (pc' := 5) dX11_putNumber_4 rfl c3 ?_
    refine me_bipush (pc' := 7) (v := 10) dX11_putNumber_5 rfl kc_b10 ?_
    refine me_icmp_lt (pc' := 10) (tgt := 18) dX11_putNumber_7 (by decide) rfl (fun c4 => ?_) (fun c4 => ?_)
    · exact rX11_putNumber_L18 (q := q) u1 hN mm_F w2 h
    · refine me_iload_n (pc' := 11) (i := 2) dX11_putNumber_10 rfl rfl rfl ?_
      refine me_bipush (pc' := 13) (v := 10) dX11_putNumber_11 rfl kc_b10 ?_
      refine me_imul (pc' := 14) dX11_putNumber_13 rfl ?_
      refine mm_bnd ((w2 * 10)) (fun x13 => [some (.ref 352), some (.int u1), some (.int w2)]) (fun x13 => [.int x13]) (fun _ => h) (fun x13 => ?_)
      refine me_istore_n (pc' := 15) (i := 2) (L' := [some (.ref 352), some (.int u1), some (.int x13)]) dX11_putNumber_14 rfl rfl (Nat.le_of_ble_eq_true rfl) (Nat.le_of_ble_eq_true rfl) rfl ?_
      refine me_goto (tgt := 2) dX11_putNumber_15 (by decide) ?_
      exact ih x13
theorem rX11_putNumber {q : Nat × Nat} (p0 : Int32) (h : mm_H) (hN : 358 ≤ q.1) : mm_R2 (mm_Sq q) (mm_Sq q) mX11_putNumber [.ref 352, .int p0] h (gX11_putNumber p0 h) lf_v := by
  refine mm_body (L := [some (.ref 352), some (.int p0), none]) rfl (by decide +kernel) (Nat.le_of_ble_eq_true rfl) rfl ?_
  unfold gX11_putNumber
  refine me_iconst (pc' := 1) (v := 1) dX11_putNumber_0 rfl kc_i1 ?_
  refine me_istore_n (pc' := 2) (i := 2) (L' := [some (.ref 352), some (.int p0), some (.int 1)]) dX11_putNumber_1 rfl rfl (Nat.le_of_ble_eq_true rfl) (Nat.le_of_ble_eq_true rfl) rfl ?_
  exact rX11_putNumber_L2 (q := q) p0 h hN mm_F 1
def gX11_batchBehind_L6 (u1 : Int32) (u2 : Int32) (u3 : Int32) (h : mm_H) : Nat → Int32 → Int32 → Option Int32
  | 0, _, _ => none
  | n + 1, w4, w5 =>
    if mm_ibd 2 4200 = true then
    if w5 < (mh_I h 353 (Int32.toNatClampNeg (2))) then
    (gX11_isOf w5 u1 h).bind (fun (x8 : Bool) =>
    mm_jn (fun (y10 : Int32) =>
    (some (w5 + 1)).bind (fun (x12 : Int32) =>
    gX11_batchBehind_L6 u1 u2 u3 h n y10 x12)) (fun (j11 : Int32 → Option Int32) =>
    if x8 = true then
    (gX11_ofBatch w5 1 h).bind (fun (x14 : Int32) =>
    if x14 = 0 then
    j11 w4
    else
    (gX11_ofBatch w5 2 h).bind (fun (x17 : Int32) =>
    mm_jn (fun (y19 : Int32) =>
    if y19 = 0 then
    j11 w4
    else
    mm_jn (fun (_ : Unit) =>
    j11 w5) (fun (j22 : Unit → Option Int32) =>
    if w4 = (-1) then
    j22 ()
    else
    (gX11_ofBatch w5 2 h).bind (fun (x24 : Int32) =>
    (gX11_ofBatch w4 2 h).bind (fun (x26 : Int32) =>
    if x24 < x26 then
    j22 ()
    else
    j11 w4)))) (fun (j20 : Int32 → Option Int32) =>
    mm_jn (fun (_ : Unit) =>
    j20 1) (fun (j29 : Unit → Option Int32) =>
    if u2 < x17 then
    j29 ()
    else
    (gX11_ofBatch w5 2 h).bind (fun (x31 : Int32) =>
    mm_jn (fun (_ : Unit) =>
    j20 0) (fun (j33 : Unit → Option Int32) =>
    if x31 = u2 then
    if u3 < w5 then
    j29 ()
    else
    j33 ()
    else
    j33 ()))))))
    else
    j11 w4))
    else
    some w4 else none
def gX11_batchBehind (p0 : Int32) (p1 : Int32) (p2 : Int32) (h : mm_H) : Option Int32 :=
gX11_batchBehind_L6 p0 p1 p2 h mm_F (-1) 0
theorem rX11_batchBehind_L6 {q : Nat × Nat}  (u1 : Int32) (u2 : Int32) (u3 : Int32)  (h : mm_H)  (hN : 358 ≤ q.1) : ∀ (n : Nat) (w4 : Int32) (w5 : Int32), mm_E2 (mm_Sq q) (mm_Sq q) mX11_batchBehind 6 [some (.ref 352), some (.int u1), some (.int u2), some (.int u3), some (.int w4), some (.int w5), none] [] h (gX11_batchBehind_L6 u1 u2 u3 h n w4 w5) (lf_i h) := by
  intro n
  induction n with
  | zero =>
    intro w4 w5
    exact mm_none
  | succ n ih =>
    intro w4 w5
    rw [gX11_batchBehind_L6]
    refine me_iload (pc' := 8) (i := 5) dX11_batchBehind_6 rfl rfl ?_
    refine me_aload_n (pc' := 9) (i := 0) dX11_batchBehind_8 rfl rfl rfl ?_
    refine me_getR (pc' := 12) (q' := 353) dX11_batchBehind_9 rfl fkX11_13 kd_352 (mm_ltm kd_352 hN) rfl (mrX11_0 hN) ?_
    refine me_iconst (pc' := 13) (v := 2) dX11_batchBehind_12 rfl kc_i2 ?_
    refine mm_guard (fun c6 => ?_)
    refine me_iald (pc' := 14) dX11_batchBehind_13 rfl kd_353 (mm_ltm kd_353 hN) (mm_ibd_of c6) ?_
    refine me_icmp_ge (pc' := 17) (tgt := 113) dX11_batchBehind_14 (by decide) rfl (fun c7 => ?_) (fun c7 => ?_)
    · refine me_iload (pc' := 115) (i := 4) dX11_batchBehind_113 rfl rfl ?_
      exact me_iret dX11_batchBehind_115 rfl (fun z => z) rfl
    · refine me_aload_n (pc' := 18) (i := 0) dX11_batchBehind_17 rfl rfl rfl ?_
      refine me_iload (pc' := 20) (i := 5) dX11_batchBehind_18 rfl rfl ?_
      refine me_iload_n (pc' := 21) (i := 1) dX11_batchBehind_20 rfl rfl rfl ?_
      refine me_callV (As := [.int w5, .int u1]) (st := []) (F' := (mm_Sq q)) (G' := (mm_Sq q)) (F'' := (mm_Sq q)) (pc' := 24) dX11_batchBehind_21 rfl mfX11_isOf rfl lkX11_98 kd_352 rfl (mm_ltm kd_352 hN) ⟨Nat.le_of_ble_eq_true rfl, Nat.le_of_ble_eq_true rfl⟩ (Nat.le_of_ble_eq_true rfl) (fun z => z) (rX11_isOf (q := q) w5 u1 h hN) (fun x8 e9 => Or.inl ⟨_, _, rfl, fun z => z, ?_⟩)
      show mm_E2 _ _ _ _ _ [.int (mx_bi x8)] h _ _
      refine mm_jnI (fun (j119 : Int32 → Option Int32) => ∀ (y10 : Int32), mm_E2 (mm_Sq q) (mm_Sq q) mX11_batchBehind 107 [some (.ref 352), some (.int u1), some (.int u2), some (.int u3), some (.int y10), some (.int w5), none] [] h (j119 y10) (lf_i h)) ?_ (fun j11 j11p => ?_)
      · intro y10
        refine me_iinc (pc' := 110) (i := 5) (x := w5) (y := w5 + 1) (L' := [some (.ref 352), some (.int u1), some (.int u2), some (.int u3), some (.int y10), some (.int (w5 + 1)), none]) dX11_batchBehind_107 rfl (Nat.le_of_ble_eq_true rfl) (Nat.le_of_ble_eq_true rfl) rfl (kc_plus kc_i1) rfl ?_
        refine mm_bnd (w5 + 1) (fun x12 => [some (.ref 352), some (.int u1), some (.int u2), some (.int u3), some (.int y10), some (.int x12), none]) (fun _ => []) (fun _ => h) (fun x12 => ?_)
        refine me_goto (tgt := 6) dX11_batchBehind_110 (by decide) ?_
        exact ih y10 x12
      refine me_ifB_eq (pc' := 27) (tgt := 107) dX11_batchBehind_24 (by decide) rfl (fun c13 => ?_) (fun c13 => ?_)
      · exact j11p w4
      · refine me_aload_n (pc' := 28) (i := 0) dX11_batchBehind_27 rfl rfl rfl ?_
        refine me_iload (pc' := 30) (i := 5) dX11_batchBehind_28 rfl rfl ?_
        refine me_iconst (pc' := 31) (v := 1) dX11_batchBehind_30 rfl kc_i1 ?_
        refine me_callV (As := [.int w5, .int 1]) (st := []) (F' := (mm_Sq q)) (G' := (mm_Sq q)) (F'' := (mm_Sq q)) (pc' := 34) dX11_batchBehind_31 rfl mfX11_ofBatch rfl lkX11_91 kd_352 rfl (mm_ltm kd_352 hN) ⟨Nat.le_of_ble_eq_true rfl, Nat.le_of_ble_eq_true rfl⟩ (Nat.le_of_ble_eq_true rfl) (fun z => z) (rX11_ofBatch (q := q) w5 1 h hN) (fun x14 e15 => Or.inl ⟨_, _, rfl, fun z => z, ?_⟩)
        show mm_E2 _ _ _ _ _ [.int x14] h _ _
        refine me_if_ne (pc' := 37) (tgt := 40) dX11_batchBehind_34 (by decide) rfl (fun c16 => ?_) (fun c16 => ?_)
        · refine me_aload_n (pc' := 41) (i := 0) dX11_batchBehind_40 rfl rfl rfl ?_
          refine me_iload (pc' := 43) (i := 5) dX11_batchBehind_41 rfl rfl ?_
          refine me_iconst (pc' := 44) (v := 2) dX11_batchBehind_43 rfl kc_i2 ?_
          refine me_callV (As := [.int w5, .int 2]) (st := []) (F' := (mm_Sq q)) (G' := (mm_Sq q)) (F'' := (mm_Sq q)) (pc' := 47) dX11_batchBehind_44 rfl mfX11_ofBatch rfl lkX11_91 kd_352 rfl (mm_ltm kd_352 hN) ⟨Nat.le_of_ble_eq_true rfl, Nat.le_of_ble_eq_true rfl⟩ (Nat.le_of_ble_eq_true rfl) (fun z => z) (rX11_ofBatch (q := q) w5 2 h hN) (fun x17 e18 => Or.inl ⟨_, _, rfl, fun z => z, ?_⟩)
          show mm_E2 _ _ _ _ _ [.int x17] h _ _
          refine me_iload_n (pc' := 48) (i := 2) dX11_batchBehind_47 rfl rfl rfl ?_
          refine mm_jnI (fun (j209 : Int32 → Option Int32) => ∀ (y19 : Int32), mm_E2 (mm_Sq q) (mm_Sq q) mX11_batchBehind 73 [some (.ref 352), some (.int u1), some (.int u2), some (.int u3), some (.int w4), some (.int w5), none] [.int y19] h (j209 y19) (lf_i h)) ?_ (fun j20 j20p => ?_)
          · intro y19
            refine me_istore (pc' := 75) (i := 6) (L' := [some (.ref 352), some (.int u1), some (.int u2), some (.int u3), some (.int w4), some (.int w5), some (.int y19)]) dX11_batchBehind_73 rfl (Nat.le_of_ble_eq_true rfl) (Nat.le_of_ble_eq_true rfl) rfl ?_
            refine me_iload (pc' := 77) (i := 6) dX11_batchBehind_75 rfl rfl ?_
            refine me_if_eq (pc' := 80) (tgt := 107) dX11_batchBehind_77 (by decide) rfl (fun c21 => ?_) (fun c21 => ?_)
            · exact mm_maskB [true, true, true, true, true, true, false] (j11p w4)
            · refine me_iload (pc' := 82) (i := 4) dX11_batchBehind_80 rfl rfl ?_
              refine me_iconst (pc' := 83) (v := (-1)) dX11_batchBehind_82 rfl kc_im1 ?_
              refine mm_jnI (fun (j229 : Unit → Option Int32) => ∀ (_ : Unit), mm_E2 (mm_Sq q) (mm_Sq q) mX11_batchBehind 103 [some (.ref 352), some (.int u1), some (.int u2), some (.int u3), none, some (.int w5), none] [] h (j229 ()) (lf_i h)) ?_ (fun j22 j22p => ?_)
              · intro _
                refine me_iload (pc' := 105) (i := 5) dX11_batchBehind_103 rfl rfl ?_
                refine me_istore (pc' := 107) (i := 4) (L' := [some (.ref 352), some (.int u1), some (.int u2), some (.int u3), some (.int w5), some (.int w5), none]) dX11_batchBehind_105 rfl (Nat.le_of_ble_eq_true rfl) (Nat.le_of_ble_eq_true rfl) rfl ?_
                exact j11p w5
              refine me_icmp_eq (pc' := 86) (tgt := 103) dX11_batchBehind_83 (by decide) rfl (fun c23 => ?_) (fun c23 => ?_)
              · exact mm_maskB [true, true, true, true, false, true, false] (j22p ())
              · refine me_aload_n (pc' := 87) (i := 0) dX11_batchBehind_86 rfl rfl rfl ?_
                refine me_iload (pc' := 89) (i := 5) dX11_batchBehind_87 rfl rfl ?_
                refine me_iconst (pc' := 90) (v := 2) dX11_batchBehind_89 rfl kc_i2 ?_
                refine me_callV (As := [.int w5, .int 2]) (st := []) (F' := (mm_Sq q)) (G' := (mm_Sq q)) (F'' := (mm_Sq q)) (pc' := 93) dX11_batchBehind_90 rfl mfX11_ofBatch rfl lkX11_91 kd_352 rfl (mm_ltm kd_352 hN) ⟨Nat.le_of_ble_eq_true rfl, Nat.le_of_ble_eq_true rfl⟩ (Nat.le_of_ble_eq_true rfl) (fun z => z) (rX11_ofBatch (q := q) w5 2 h hN) (fun x24 e25 => Or.inl ⟨_, _, rfl, fun z => z, ?_⟩)
                show mm_E2 _ _ _ _ _ [.int x24] h _ _
                refine me_aload_n (pc' := 94) (i := 0) dX11_batchBehind_93 rfl rfl rfl ?_
                refine me_iload (pc' := 96) (i := 4) dX11_batchBehind_94 rfl rfl ?_
                refine me_iconst (pc' := 97) (v := 2) dX11_batchBehind_96 rfl kc_i2 ?_
                refine me_callV (As := [.int w4, .int 2]) (st := [.int x24]) (F' := (mm_Sq q)) (G' := (mm_Sq q)) (F'' := (mm_Sq q)) (pc' := 100) dX11_batchBehind_97 rfl mfX11_ofBatch rfl lkX11_91 kd_352 rfl (mm_ltm kd_352 hN) ⟨Nat.le_of_ble_eq_true rfl, Nat.le_of_ble_eq_true rfl⟩ (Nat.le_of_ble_eq_true rfl) (fun z => z) (rX11_ofBatch (q := q) w4 2 h hN) (fun x26 e27 => Or.inl ⟨_, _, rfl, fun z => z, ?_⟩)
                show mm_E2 _ _ _ _ _ [.int x26, .int x24] h _ _
                refine me_icmp_ge (pc' := 103) (tgt := 107) dX11_batchBehind_100 (by decide) rfl (fun c28 => ?_) (fun c28 => ?_)
                · exact mm_maskB [true, true, true, true, true, true, false] (j11p w4)
                · exact mm_maskB [true, true, true, true, false, true, false] (j22p ())
          refine mm_jnI (fun (j299 : Unit → Option Int32) => ∀ (_ : Unit), mm_E2 (mm_Sq q) (mm_Sq q) mX11_batchBehind 68 [some (.ref 352), some (.int u1), some (.int u2), some (.int u3), some (.int w4), some (.int w5), none] [] h (j299 ()) (lf_i h)) ?_ (fun j29 j29p => ?_)
          · intro _
            refine me_iconst (pc' := 69) (v := 1) dX11_batchBehind_68 rfl kc_i1 ?_
            refine me_goto (tgt := 73) dX11_batchBehind_69 (by decide) ?_
            exact j20p 1
          refine me_icmp_gt (pc' := 51) (tgt := 68) dX11_batchBehind_48 (by decide) rfl (fun c30 => ?_) (fun c30 => ?_)
          · exact j29p ()
          · refine me_aload_n (pc' := 52) (i := 0) dX11_batchBehind_51 rfl rfl rfl ?_
            refine me_iload (pc' := 54) (i := 5) dX11_batchBehind_52 rfl rfl ?_
            refine me_iconst (pc' := 55) (v := 2) dX11_batchBehind_54 rfl kc_i2 ?_
            refine me_callV (As := [.int w5, .int 2]) (st := []) (F' := (mm_Sq q)) (G' := (mm_Sq q)) (F'' := (mm_Sq q)) (pc' := 58) dX11_batchBehind_55 rfl mfX11_ofBatch rfl lkX11_91 kd_352 rfl (mm_ltm kd_352 hN) ⟨Nat.le_of_ble_eq_true rfl, Nat.le_of_ble_eq_true rfl⟩ (Nat.le_of_ble_eq_true rfl) (fun z => z) (rX11_ofBatch (q := q) w5 2 h hN) (fun x31 e32 => Or.inl ⟨_, _, rfl, fun z => z, ?_⟩)
            show mm_E2 _ _ _ _ _ [.int x31] h _ _
            refine me_iload_n (pc' := 59) (i := 2) dX11_batchBehind_58 rfl rfl rfl ?_
            refine mm_jnI (fun (j339 : Unit → Option Int32) => ∀ (_ : Unit), mm_E2 (mm_Sq q) (mm_Sq q) mX11_batchBehind 72 [some (.ref 352), some (.int u1), some (.int u2), some (.int u3), some (.int w4), some (.int w5), none] [] h (j339 ()) (lf_i h)) ?_ (fun j33 j33p => ?_)
            · intro _
              refine me_iconst (pc' := 73) (v := 0) dX11_batchBehind_72 rfl kc_i0 ?_
              exact j20p 0
            refine me_icmp_ne (pc' := 62) (tgt := 72) dX11_batchBehind_59 (by decide) rfl (fun c34 => ?_) (fun c34 => ?_)
            · exact j33p ()
            · refine me_iload (pc' := 64) (i := 5) dX11_batchBehind_62 rfl rfl ?_
              refine me_iload_n (pc' := 65) (i := 3) dX11_batchBehind_64 rfl rfl rfl ?_
              refine me_icmp_le (pc' := 68) (tgt := 72) dX11_batchBehind_65 (by decide) rfl (fun c35 => ?_) (fun c35 => ?_)
              · exact j33p ()
              · exact j29p ()
        · refine me_goto (tgt := 107) dX11_batchBehind_37 (by decide) ?_
          exact j11p w4
theorem rX11_batchBehind {q : Nat × Nat} (p0 : Int32) (p1 : Int32) (p2 : Int32) (h : mm_H) (hN : 358 ≤ q.1) : mm_R2 (mm_Sq q) (mm_Sq q) mX11_batchBehind [.ref 352, .int p0, .int p1, .int p2] h (gX11_batchBehind p0 p1 p2 h) (lf_i h) := by
  refine mm_body (L := [some (.ref 352), some (.int p0), some (.int p1), some (.int p2), none, none, none]) rfl (by decide +kernel) (Nat.le_of_ble_eq_true rfl) rfl ?_
  unfold gX11_batchBehind
  refine me_iconst (pc' := 1) (v := (-1)) dX11_batchBehind_0 rfl kc_im1 ?_
  refine me_istore (pc' := 3) (i := 4) (L' := [some (.ref 352), some (.int p0), some (.int p1), some (.int p2), some (.int (-1)), none, none]) dX11_batchBehind_1 rfl (Nat.le_of_ble_eq_true rfl) (Nat.le_of_ble_eq_true rfl) rfl ?_
  refine me_iconst (pc' := 4) (v := 0) dX11_batchBehind_3 rfl kc_i0 ?_
  refine me_istore (pc' := 6) (i := 5) (L' := [some (.ref 352), some (.int p0), some (.int p1), some (.int p2), some (.int (-1)), some (.int 0), none]) dX11_batchBehind_4 rfl (Nat.le_of_ble_eq_true rfl) (Nat.le_of_ble_eq_true rfl) rfl ?_
  exact rX11_batchBehind_L6 (q := q) p0 p1 p2 h hN mm_F (-1) 0
def gX11_writeBatches_L37 (u12 : Int32) : Nat → Int32 → mm_H → Option (Int32 × mm_H)
  | 0, _, _ => none
  | n + 1, w13, h14 =>
    if w13 = (-1) then
    some ((mh_I h14 352 8), h14)
    else
    mm_jn (fun (h16 : mm_H) =>
    (gX11_ofBatch w13 1 h16).bind (fun (x18 : Int32) =>
    (gX11_putNumber x18 h16).bind (fun (h20 : mm_H) =>
    (gX11_put 64 h20).bind (fun (h22 : mm_H) =>
    (gX11_ofBatch w13 2 h22).bind (fun (x24 : Int32) =>
    (gX11_putNumber x24 h22).bind (fun (h26 : mm_H) =>
    (gX11_isPast w13 h26).bind (fun (x28 : Bool) =>
    mm_jn (fun (h30 : mm_H) =>
    (gX11_ofBatch w13 2 h30).bind (fun (x32 : Int32) =>
    (gX11_batchBehind u12 x32 w13 h30).bind (fun (x34 : Int32) =>
    gX11_writeBatches_L37 u12 n x34 h30))) (fun (j31 : mm_H → Option (Int32 × mm_H)) =>
    if x28 = true then
    (gX11_put 33 h26).bind (fun (h37 : mm_H) =>
    j31 h37)
    else
    j31 h26)))))))) (fun (j17 : mm_H → Option (Int32 × mm_H)) =>
    if 0 < (mh_I h14 352 8) then
    (gX11_put 32 h14).bind (fun (h40 : mm_H) =>
    j17 h40)
    else
    j17 h14)
def gX11_writeBatches (p0 : Int32) (h : mm_H) : Option (Int32 × mm_H) :=
(gX11_isProduct p0 h).bind (fun (x1 : Bool) =>
mm_jn (fun (y3 : Int32) =>
(gX11_fails y3 0 0 h).bind (fun (x6 : (Bool × mm_H)) =>
if x6.1 = true then
some (0, x6.2)
else
(some (ms_I x6.2 352 8 0)).bind (fun (h9 : mm_H) =>
(gX11_batchBehind p0 (-1) (-1) h9).bind (fun (x10 : Int32) =>
gX11_writeBatches_L37 p0 mm_F x10 h9)))) (fun (j5 : Int32 → Option (Int32 × mm_H)) =>
if x1 = true then
j5 0
else
j5 1))
theorem rX11_writeBatches_L37 {q : Nat × Nat}  (u12 : Int32)    (hN : 358 ≤ q.1) : ∀ (n : Nat) (w13 : Int32) (h14 : mm_H), mm_E2 (mm_Sq q) (mm_Sq q) mX11_writeBatches 37 [some (.ref 352), some (.int u12), some (.int w13)] [] h14 (gX11_writeBatches_L37 u12  n w13 h14) lf_ie := by
  intro n
  induction n with
  | zero =>
    intro w13 h14
    exact mm_none
  | succ n ih =>
    intro w13 h14
    rw [gX11_writeBatches_L37]
    refine me_iload_n (pc' := 38) (i := 2) dX11_writeBatches_37 rfl rfl rfl ?_
    refine me_iconst (pc' := 39) (v := (-1)) dX11_writeBatches_38 rfl kc_im1 ?_
    refine me_icmp_eq (pc' := 42) (tgt := 111) dX11_writeBatches_39 (by decide) rfl (fun c15 => ?_) (fun c15 => ?_)
    · refine me_aload_n (pc' := 112) (i := 0) dX11_writeBatches_111 rfl rfl rfl ?_
      refine me_getI (pc' := 115) dX11_writeBatches_112 rfl fkX11_39 kd_352 (mm_ltm kd_352 hN) rfl ?_
      exact me_iret dX11_writeBatches_115 rfl (fun z => z) rfl
    · refine me_aload_n (pc' := 43) (i := 0) dX11_writeBatches_42 rfl rfl rfl ?_
      refine me_getI (pc' := 46) dX11_writeBatches_43 rfl fkX11_39 kd_352 (mm_ltm kd_352 hN) rfl ?_
      refine mm_jnI (fun (j179 : mm_H → Option (Int32 × mm_H)) => ∀ (h16 : mm_H), mm_E2 (mm_Sq q) (mm_Sq q) mX11_writeBatches 55 [some (.ref 352), some (.int u12), some (.int w13)] [] h16 (j179 h16) lf_ie) ?_ (fun j17 j17p => ?_)
      · intro h16
        refine me_aload_n (pc' := 56) (i := 0) dX11_writeBatches_55 rfl rfl rfl ?_
        refine me_aload_n (pc' := 57) (i := 0) dX11_writeBatches_56 rfl rfl rfl ?_
        refine me_iload_n (pc' := 58) (i := 2) dX11_writeBatches_57 rfl rfl rfl ?_
        refine me_iconst (pc' := 59) (v := 1) dX11_writeBatches_58 rfl kc_i1 ?_
        refine me_callV (As := [.int w13, .int 1]) (st := [.ref 352]) (F' := (mm_Sq q)) (G' := (mm_Sq q)) (F'' := (mm_Sq q)) (pc' := 62) dX11_writeBatches_59 rfl mfX11_ofBatch rfl lkX11_91 kd_352 rfl (mm_ltm kd_352 hN) ⟨Nat.le_of_ble_eq_true rfl, Nat.le_of_ble_eq_true rfl⟩ (Nat.le_of_ble_eq_true rfl) (fun z => z) (rX11_ofBatch (q := q) w13 1 h16 hN) (fun x18 e19 => Or.inl ⟨_, _, rfl, fun z => z, ?_⟩)
        show mm_E2 _ _ _ _ _ [.int x18, .ref 352] h16 _ _
        refine me_callV (As := [.int x18]) (st := []) (F' := (mm_Sq q)) (G' := (mm_Sq q)) (F'' := (mm_Sq q)) (pc' := 65) dX11_writeBatches_62 rfl mfX11_putNumber rfl lkX11_322 kd_352 rfl (mm_ltm kd_352 hN) ⟨Nat.le_of_ble_eq_true rfl, Nat.le_of_ble_eq_true rfl⟩ (Nat.le_of_ble_eq_true rfl) (fun z => z) (rX11_putNumber (q := q) x18 h16 hN) (fun h20 e21 => Or.inl ⟨_, _, rfl, fun z => z, ?_⟩)
        show mm_E2 _ _ _ _ _ [] h20 _ _
        refine me_aload_n (pc' := 66) (i := 0) dX11_writeBatches_65 rfl rfl rfl ?_
        refine me_bipush (pc' := 68) (v := 64) dX11_writeBatches_66 rfl kc_b64 ?_
        refine me_callV (As := [.int 64]) (st := []) (F' := (mm_Sq q)) (G' := (mm_Sq q)) (F'' := (mm_Sq q)) (pc' := 71) dX11_writeBatches_68 rfl mfX11_put rfl lkX11_316 kd_352 rfl (mm_ltm kd_352 hN) ⟨Nat.le_of_ble_eq_true rfl, Nat.le_of_ble_eq_true rfl⟩ (Nat.le_of_ble_eq_true rfl) (fun z => z) (rX11_put (q := q) 64 h20 hN) (fun h22 e23 => Or.inl ⟨_, _, rfl, fun z => z, ?_⟩)
        show mm_E2 _ _ _ _ _ [] h22 _ _
        refine me_aload_n (pc' := 72) (i := 0) dX11_writeBatches_71 rfl rfl rfl ?_
        refine me_aload_n (pc' := 73) (i := 0) dX11_writeBatches_72 rfl rfl rfl ?_
        refine me_iload_n (pc' := 74) (i := 2) dX11_writeBatches_73 rfl rfl rfl ?_
        refine me_iconst (pc' := 75) (v := 2) dX11_writeBatches_74 rfl kc_i2 ?_
        refine me_callV (As := [.int w13, .int 2]) (st := [.ref 352]) (F' := (mm_Sq q)) (G' := (mm_Sq q)) (F'' := (mm_Sq q)) (pc' := 78) dX11_writeBatches_75 rfl mfX11_ofBatch rfl lkX11_91 kd_352 rfl (mm_ltm kd_352 hN) ⟨Nat.le_of_ble_eq_true rfl, Nat.le_of_ble_eq_true rfl⟩ (Nat.le_of_ble_eq_true rfl) (fun z => z) (rX11_ofBatch (q := q) w13 2 h22 hN) (fun x24 e25 => Or.inl ⟨_, _, rfl, fun z => z, ?_⟩)
        show mm_E2 _ _ _ _ _ [.int x24, .ref 352] h22 _ _
        refine me_callV (As := [.int x24]) (st := []) (F' := (mm_Sq q)) (G' := (mm_Sq q)) (F'' := (mm_Sq q)) (pc' := 81) dX11_writeBatches_78 rfl mfX11_putNumber rfl lkX11_322 kd_352 rfl (mm_ltm kd_352 hN) ⟨Nat.le_of_ble_eq_true rfl, Nat.le_of_ble_eq_true rfl⟩ (Nat.le_of_ble_eq_true rfl) (fun z => z) (rX11_putNumber (q := q) x24 h22 hN) (fun h26 e27 => Or.inl ⟨_, _, rfl, fun z => z, ?_⟩)
        show mm_E2 _ _ _ _ _ [] h26 _ _
        refine me_aload_n (pc' := 82) (i := 0) dX11_writeBatches_81 rfl rfl rfl ?_
        refine me_iload_n (pc' := 83) (i := 2) dX11_writeBatches_82 rfl rfl rfl ?_
        refine me_callV (As := [.int w13]) (st := []) (F' := (mm_Sq q)) (G' := (mm_Sq q)) (F'' := (mm_Sq q)) (pc' := 86) dX11_writeBatches_83 rfl mfX11_isPast rfl lkX11_124 kd_352 rfl (mm_ltm kd_352 hN) ⟨Nat.le_of_ble_eq_true rfl, Nat.le_of_ble_eq_true rfl⟩ (Nat.le_of_ble_eq_true rfl) (fun z => z) (rX11_isPast (q := q) w13 h26 hN) (fun x28 e29 => Or.inl ⟨_, _, rfl, fun z => z, ?_⟩)
        show mm_E2 _ _ _ _ _ [.int (mx_bi x28)] h26 _ _
        refine mm_jnI (fun (j319 : mm_H → Option (Int32 × mm_H)) => ∀ (h30 : mm_H), mm_E2 (mm_Sq q) (mm_Sq q) mX11_writeBatches 95 [some (.ref 352), some (.int u12), some (.int w13)] [] h30 (j319 h30) lf_ie) ?_ (fun j31 j31p => ?_)
        · intro h30
          refine me_aload_n (pc' := 96) (i := 0) dX11_writeBatches_95 rfl rfl rfl ?_
          refine me_iload_n (pc' := 97) (i := 1) dX11_writeBatches_96 rfl rfl rfl ?_
          refine me_aload_n (pc' := 98) (i := 0) dX11_writeBatches_97 rfl rfl rfl ?_
          refine me_iload_n (pc' := 99) (i := 2) dX11_writeBatches_98 rfl rfl rfl ?_
          refine me_iconst (pc' := 100) (v := 2) dX11_writeBatches_99 rfl kc_i2 ?_
          refine me_callV (As := [.int w13, .int 2]) (st := [.int u12, .ref 352]) (F' := (mm_Sq q)) (G' := (mm_Sq q)) (F'' := (mm_Sq q)) (pc' := 103) dX11_writeBatches_100 rfl mfX11_ofBatch rfl lkX11_91 kd_352 rfl (mm_ltm kd_352 hN) ⟨Nat.le_of_ble_eq_true rfl, Nat.le_of_ble_eq_true rfl⟩ (Nat.le_of_ble_eq_true rfl) (fun z => z) (rX11_ofBatch (q := q) w13 2 h30 hN) (fun x32 e33 => Or.inl ⟨_, _, rfl, fun z => z, ?_⟩)
          show mm_E2 _ _ _ _ _ [.int x32, .int u12, .ref 352] h30 _ _
          refine me_iload_n (pc' := 104) (i := 2) dX11_writeBatches_103 rfl rfl rfl ?_
          refine me_callV (As := [.int u12, .int x32, .int w13]) (st := []) (F' := (mm_Sq q)) (G' := (mm_Sq q)) (F'' := (mm_Sq q)) (pc' := 107) dX11_writeBatches_104 rfl mfX11_batchBehind rfl lkX11_319 kd_352 rfl (mm_ltm kd_352 hN) ⟨Nat.le_of_ble_eq_true rfl, Nat.le_of_ble_eq_true rfl⟩ (Nat.le_of_ble_eq_true rfl) (fun z => z) (rX11_batchBehind (q := q) u12 x32 w13 h30 hN) (fun x34 e35 => Or.inl ⟨_, _, rfl, fun z => z, ?_⟩)
          show mm_E2 _ _ _ _ _ [.int x34] h30 _ _
          refine me_istore_n (pc' := 108) (i := 2) (L' := [some (.ref 352), some (.int u12), some (.int x34)]) dX11_writeBatches_107 rfl rfl (Nat.le_of_ble_eq_true rfl) (Nat.le_of_ble_eq_true rfl) rfl ?_
          refine me_goto (tgt := 37) dX11_writeBatches_108 (by decide) ?_
          exact ih x34 h30
        refine me_ifB_eq (pc' := 89) (tgt := 95) dX11_writeBatches_86 (by decide) rfl (fun c36 => ?_) (fun c36 => ?_)
        · exact j31p h26
        · refine me_aload_n (pc' := 90) (i := 0) dX11_writeBatches_89 rfl rfl rfl ?_
          refine me_bipush (pc' := 92) (v := 33) dX11_writeBatches_90 rfl kc_b33 ?_
          refine me_callV (As := [.int 33]) (st := []) (F' := (mm_Sq q)) (G' := (mm_Sq q)) (F'' := (mm_Sq q)) (pc' := 95) dX11_writeBatches_92 rfl mfX11_put rfl lkX11_316 kd_352 rfl (mm_ltm kd_352 hN) ⟨Nat.le_of_ble_eq_true rfl, Nat.le_of_ble_eq_true rfl⟩ (Nat.le_of_ble_eq_true rfl) (fun z => z) (rX11_put (q := q) 33 h26 hN) (fun h37 e38 => Or.inl ⟨_, _, rfl, fun z => z, ?_⟩)
          show mm_E2 _ _ _ _ _ [] h37 _ _
          exact j31p h37
      refine me_if_le (pc' := 49) (tgt := 55) dX11_writeBatches_46 (by decide) rfl (fun c39 => ?_) (fun c39 => ?_)
      · exact j17p h14
      · refine me_aload_n (pc' := 50) (i := 0) dX11_writeBatches_49 rfl rfl rfl ?_
        refine me_bipush (pc' := 52) (v := 32) dX11_writeBatches_50 rfl kc_b32 ?_
        refine me_callV (As := [.int 32]) (st := []) (F' := (mm_Sq q)) (G' := (mm_Sq q)) (F'' := (mm_Sq q)) (pc' := 55) dX11_writeBatches_52 rfl mfX11_put rfl lkX11_316 kd_352 rfl (mm_ltm kd_352 hN) ⟨Nat.le_of_ble_eq_true rfl, Nat.le_of_ble_eq_true rfl⟩ (Nat.le_of_ble_eq_true rfl) (fun z => z) (rX11_put (q := q) 32 h14 hN) (fun h40 e41 => Or.inl ⟨_, _, rfl, fun z => z, ?_⟩)
        show mm_E2 _ _ _ _ _ [] h40 _ _
        exact j17p h40
theorem rX11_writeBatches {q : Nat × Nat} (p0 : Int32) (h : mm_H) (hN : 358 ≤ q.1) : mm_R2 (mm_Sq q) (mm_Sq q) mX11_writeBatches [.ref 352, .int p0] h (gX11_writeBatches p0 h) lf_ie := by
  refine mm_body (L := [some (.ref 352), some (.int p0), none]) rfl (by decide +kernel) (Nat.le_of_ble_eq_true rfl) rfl ?_
  unfold gX11_writeBatches
  refine me_aload_n (pc' := 1) (i := 0) dX11_writeBatches_0 rfl rfl rfl ?_
  refine me_aload_n (pc' := 2) (i := 0) dX11_writeBatches_1 rfl rfl rfl ?_
  refine me_iload_n (pc' := 3) (i := 1) dX11_writeBatches_2 rfl rfl rfl ?_
  refine me_callV (As := [.int p0]) (st := [.ref 352]) (F' := (mm_Sq q)) (G' := (mm_Sq q)) (F'' := (mm_Sq q)) (pc' := 6) dX11_writeBatches_3 rfl mfX11_isProduct rfl lkX11_283 kd_352 rfl (mm_ltm kd_352 hN) ⟨Nat.le_of_ble_eq_true rfl, Nat.le_of_ble_eq_true rfl⟩ (Nat.le_of_ble_eq_true rfl) (fun z => z) (rX11_isProduct (q := q) p0 h hN) (fun x1 e2 => Or.inl ⟨_, _, rfl, fun z => z, ?_⟩)
  show mm_E2 _ _ _ _ _ [.int (mx_bi x1), .ref 352] h _ _
  refine mm_jnI (fun (j59 : Int32 → Option (Int32 × mm_H)) => ∀ (y3 : Int32), mm_E2 (mm_Sq q) (mm_Sq q) mX11_writeBatches 14 [some (.ref 352), some (.int p0), none] [.int y3, .ref 352] h (j59 y3) lf_ie) ?_ (fun j5 j5p => ?_)
  · intro y3
    refine me_iconst (pc' := 15) (v := 0) dX11_writeBatches_14 rfl kc_i0 ?_
    refine me_iconst (pc' := 16) (v := 0) dX11_writeBatches_15 rfl kc_i0 ?_
    refine me_callV (As := [.int y3, .int 0, .int 0]) (st := []) (F' := (mm_Sq q)) (G' := (mm_Sq q)) (F'' := (mm_Sq q)) (pc' := 19) dX11_writeBatches_16 rfl mfX11_fails rfl lkX11_143 kd_352 rfl (mm_ltm kd_352 hN) ⟨Nat.le_of_ble_eq_true rfl, Nat.le_of_ble_eq_true rfl⟩ (Nat.le_of_ble_eq_true rfl) (fun z => z) (rX11_fails (q := q) y3 0 0 h hN) (fun x6 e7 => Or.inl ⟨_, _, rfl, fun z => z, ?_⟩)
    show mm_E2 _ _ _ _ _ [.int (mx_bi x6.1)] x6.2 _ _
    refine me_ifB_eq (pc' := 22) (tgt := 24) dX11_writeBatches_19 (by decide) rfl (fun c8 => ?_) (fun c8 => ?_)
    · refine me_aload_n (pc' := 25) (i := 0) dX11_writeBatches_24 rfl rfl rfl ?_
      refine me_iconst (pc' := 26) (v := 0) dX11_writeBatches_25 rfl kc_i0 ?_
      refine me_putI (F' := (mm_Sq q)) (pc' := 29) dX11_writeBatches_26 rfl fkX11_39 kd_352 (mm_ltm kd_352 hN) rfl pgX11_8 (fun z => z) ?_
      refine mm_bnd (ms_I x6.2 352 8 0) (fun _ => [some (.ref 352), some (.int p0), none]) (fun _ => []) (fun h9 => h9) (fun h9 => ?_)
      refine me_aload_n (pc' := 30) (i := 0) dX11_writeBatches_29 rfl rfl rfl ?_
      refine me_iload_n (pc' := 31) (i := 1) dX11_writeBatches_30 rfl rfl rfl ?_
      refine me_iconst (pc' := 32) (v := (-1)) dX11_writeBatches_31 rfl kc_im1 ?_
      refine me_iconst (pc' := 33) (v := (-1)) dX11_writeBatches_32 rfl kc_im1 ?_
      refine me_callV (As := [.int p0, .int (-1), .int (-1)]) (st := []) (F' := (mm_Sq q)) (G' := (mm_Sq q)) (F'' := (mm_Sq q)) (pc' := 36) dX11_writeBatches_33 rfl mfX11_batchBehind rfl lkX11_319 kd_352 rfl (mm_ltm kd_352 hN) ⟨Nat.le_of_ble_eq_true rfl, Nat.le_of_ble_eq_true rfl⟩ (Nat.le_of_ble_eq_true rfl) (fun z => z) (rX11_batchBehind (q := q) p0 (-1) (-1) h9 hN) (fun x10 e11 => Or.inl ⟨_, _, rfl, fun z => z, ?_⟩)
      show mm_E2 _ _ _ _ _ [.int x10] h9 _ _
      refine me_istore_n (pc' := 37) (i := 2) (L' := [some (.ref 352), some (.int p0), some (.int x10)]) dX11_writeBatches_36 rfl rfl (Nat.le_of_ble_eq_true rfl) (Nat.le_of_ble_eq_true rfl) rfl ?_
      exact rX11_writeBatches_L37 (q := q) p0 hN mm_F x10 h9
    · refine me_iconst (pc' := 23) (v := 0) dX11_writeBatches_22 rfl kc_i0 ?_
      exact me_iret dX11_writeBatches_23 rfl (fun z => z) rfl
  refine me_ifB_ne (pc' := 9) (tgt := 13) dX11_writeBatches_6 (by decide) rfl (fun c42 => ?_) (fun c42 => ?_)
  · refine me_iconst (pc' := 14) (v := 0) dX11_writeBatches_13 rfl kc_i0 ?_
    exact j5p 0
  · refine me_iconst (pc' := 10) (v := 1) dX11_writeBatches_9 rfl kc_i1 ?_
    refine me_goto (tgt := 14) dX11_writeBatches_10 (by decide) ?_
    exact j5p 1
def gX11_outputByte (p0 : Int32) (h : mm_H) : Option (Int32 × mm_H) :=
(gX11_in p0 0 (((mh_I h 352 8) - 1)) h).bind (fun (x1 : Bool) =>
mm_jn (fun (y3 : Int32) =>
(gX11_fails y3 0 0 h).bind (fun (x6 : (Bool × mm_H)) =>
if x6.1 = true then
some (0, x6.2)
else
if mm_ibd p0 300 = true then
some ((mh_I x6.2 356 (Int32.toNatClampNeg (p0))), x6.2) else none)) (fun (j5 : Int32 → Option (Int32 × mm_H)) =>
if x1 = true then
j5 0
else
j5 1))
theorem rX11_outputByte {q : Nat × Nat} (p0 : Int32) (h : mm_H) (hN : 358 ≤ q.1) : mm_R2 (mm_Sq q) (mm_Sq q) mX11_outputByte [.ref 352, .int p0] h (gX11_outputByte p0 h) lf_ie := by
  refine mm_body (L := [some (.ref 352), some (.int p0)]) rfl (by decide +kernel) (Nat.le_of_ble_eq_true rfl) rfl ?_
  unfold gX11_outputByte
  refine me_aload_n (pc' := 1) (i := 0) dX11_outputByte_0 rfl rfl rfl ?_
  refine me_iload_n (pc' := 2) (i := 1) dX11_outputByte_1 rfl rfl rfl ?_
  refine me_iconst (pc' := 3) (v := 0) dX11_outputByte_2 rfl kc_i0 ?_
  refine me_aload_n (pc' := 4) (i := 0) dX11_outputByte_3 rfl rfl rfl ?_
  refine me_getI (pc' := 7) dX11_outputByte_4 rfl fkX11_39 kd_352 (mm_ltm kd_352 hN) rfl ?_
  refine me_iconst (pc' := 8) (v := 1) dX11_outputByte_7 rfl kc_i1 ?_
  refine me_isub (pc' := 9) dX11_outputByte_8 rfl ?_
  refine me_callS (As := [.int p0, .int 0, .int ((mh_I h 352 8) - 1)]) (st := [.ref 352]) (F' := (mm_Sq q)) (G' := (mm_Sq q)) (F'' := (mm_Sq q)) (pc' := 12) dX11_outputByte_9 rfl mfX11_in rfl lkX11_75 ⟨Nat.le_of_ble_eq_true rfl, Nat.le_of_ble_eq_true rfl⟩ (Nat.le_of_ble_eq_true rfl) (fun z => z) (rX11_in (q := q) p0 0 (((mh_I h 352 8) - 1)) h hN) (fun x1 e2 => Or.inl ⟨_, _, rfl, fun z => z, ?_⟩)
  show mm_E2 _ _ _ _ _ [.int (mx_bi x1), .ref 352] h _ _
  refine mm_jnI (fun (j59 : Int32 → Option (Int32 × mm_H)) => ∀ (y3 : Int32), mm_E2 (mm_Sq q) (mm_Sq q) mX11_outputByte 20 [some (.ref 352), some (.int p0)] [.int y3, .ref 352] h (j59 y3) lf_ie) ?_ (fun j5 j5p => ?_)
  · intro y3
    refine me_iconst (pc' := 21) (v := 0) dX11_outputByte_20 rfl kc_i0 ?_
    refine me_iconst (pc' := 22) (v := 0) dX11_outputByte_21 rfl kc_i0 ?_
    refine me_callV (As := [.int y3, .int 0, .int 0]) (st := []) (F' := (mm_Sq q)) (G' := (mm_Sq q)) (F'' := (mm_Sq q)) (pc' := 25) dX11_outputByte_22 rfl mfX11_fails rfl lkX11_143 kd_352 rfl (mm_ltm kd_352 hN) ⟨Nat.le_of_ble_eq_true rfl, Nat.le_of_ble_eq_true rfl⟩ (Nat.le_of_ble_eq_true rfl) (fun z => z) (rX11_fails (q := q) y3 0 0 h hN) (fun x6 e7 => Or.inl ⟨_, _, rfl, fun z => z, ?_⟩)
    show mm_E2 _ _ _ _ _ [.int (mx_bi x6.1)] x6.2 _ _
    refine me_ifB_eq (pc' := 28) (tgt := 30) dX11_outputByte_25 (by decide) rfl (fun c8 => ?_) (fun c8 => ?_)
    · refine me_aload_n (pc' := 31) (i := 0) dX11_outputByte_30 rfl rfl rfl ?_
      refine me_getR (pc' := 34) (q' := 356) dX11_outputByte_31 rfl fkX11_36 kd_352 (mm_ltm kd_352 hN) rfl (mrX11_7 hN) ?_
      refine me_iload_n (pc' := 35) (i := 1) dX11_outputByte_34 rfl rfl rfl ?_
      refine mm_guard (fun c9 => ?_)
      refine me_iald (pc' := 36) dX11_outputByte_35 rfl kd_356 (mm_ltm kd_356 hN) (mm_ibd_of c9) ?_
      exact me_iret dX11_outputByte_36 rfl (fun z => z) rfl
    · refine me_iconst (pc' := 29) (v := 0) dX11_outputByte_28 rfl kc_i0 ?_
      exact me_iret dX11_outputByte_29 rfl (fun z => z) rfl
  refine me_ifB_ne (pc' := 15) (tgt := 19) dX11_outputByte_12 (by decide) rfl (fun c10 => ?_) (fun c10 => ?_)
  · refine me_iconst (pc' := 20) (v := 0) dX11_outputByte_19 rfl kc_i0 ?_
    exact j5p 0
  · refine me_iconst (pc' := 16) (v := 1) dX11_outputByte_15 rfl kc_i1 ?_
    refine me_goto (tgt := 20) dX11_outputByte_16 (by decide) ?_
    exact j5p 1
end MMWD

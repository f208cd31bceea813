section MMQ
/-! the law: a function a case, and its loop (gen22.py) -/
def gL_c304 (i : Int32) (j : mm_H → Option (Bool × mm_H)) (h : mm_H) : Option (Bool × mm_H) :=
if mm_isb ((i + 1)) (mh_I h 360 0) = true then
if mm_isb ((i + 2)) (mh_I h 360 0) = true then
if mm_isb ((i + 3)) (mh_I h 360 0) = true then
if mm_isb ((i + 4)) (mh_I h 360 0) = true then
if mm_isb ((i + 5)) (mh_I h 360 0) = true then
(gL_append ((mh_I h 360 (Int32.toNatClampNeg ((i + 1)) + 1))) ((mh_I h 360 (Int32.toNatClampNeg ((i + 2)) + 1))) ((mh_I h 360 (Int32.toNatClampNeg ((i + 3)) + 1))) ((mh_I h 360 (Int32.toNatClampNeg ((i + 4)) + 1))) ((mh_I h 360 (Int32.toNatClampNeg ((i + 5)) + 1))) h).bind (fun (x6 : (Int32 × mm_H)) =>
if mm_isb ((i + 1)) (mh_I x6.2 360 0) = true then
if mm_isb ((i + 2)) (mh_I x6.2 360 0) = true then
if mm_isb ((i + 3)) (mh_I x6.2 360 0) = true then
if mm_isb ((i + 4)) (mh_I x6.2 360 0) = true then
if mm_isb ((i + 5)) (mh_I x6.2 360 0) = true then
(gX11_append ((mh_I x6.2 360 (Int32.toNatClampNeg ((i + 1)) + 1))) ((mh_I x6.2 360 (Int32.toNatClampNeg ((i + 2)) + 1))) ((mh_I x6.2 360 (Int32.toNatClampNeg ((i + 3)) + 1))) ((mh_I x6.2 360 (Int32.toNatClampNeg ((i + 4)) + 1))) ((mh_I x6.2 360 (Int32.toNatClampNeg ((i + 5)) + 1))) x6.2).bind (fun (x13 : (Int32 × mm_H)) =>
(gX11_thrown x13.2).bind (fun (x15 : Int32) =>
if x15 = x6.1 then
mm_jn (fun (_ : Unit) =>
j x13.2) (fun (j18 : Unit → Option (Bool × mm_H)) =>
if x6.1 = 0 then
if mm_ibd 0 1 = true then
if (lg_cmp ((mh_J x13.2 358 (Int32.toNatClampNeg (0)))) ((x13.1).toInt64)) = 0 then
j18 ()
else
some (false, x13.2) else none
else
j18 ())
else
some (false, x13.2))) else none else none else none else none else none) else none else none else none else none else none
theorem rL_c304 (i : Int32) (j : mm_H → Option (Bool × mm_H)) (jp : ∀ h, mm_E2 mm_SQ mm_SQ mL_law 3496 [some (.ref 360), some (.ref 0), some (.ref 352), some (.ref 358), some (.ref 359), some (.int i), none, none, none] [] h (j h) lf_ze) (h : mm_H) : mm_E2 mm_SQ mm_SQ mL_law 304 [some (.ref 360), some (.ref 0), some (.ref 352), some (.ref 358), some (.ref 359), some (.int i), none, none, none] [] h (gL_c304 i j h) lf_ze := by
  unfold gL_c304
  refine me_aload_n (pc' := 305) (i := 1) dL_law_304 rfl rfl rfl ?_
  refine me_aload_n (pc' := 306) (i := 0) dL_law_305 rfl rfl rfl ?_
  refine me_iload (pc' := 308) (i := 5) dL_law_306 rfl rfl ?_
  refine me_iconst (pc' := 309) (v := 1) dL_law_308 rfl kc_i1 ?_
  refine me_iadd (pc' := 310) dL_law_309 rfl ?_
  refine mm_guard (fun c1 => ?_)
  refine me_scld (pc' := 311) dL_law_310 rfl c1 ?_
  refine me_aload_n (pc' := 312) (i := 0) dL_law_311 rfl rfl rfl ?_
  refine me_iload (pc' := 314) (i := 5) dL_law_312 rfl rfl ?_
  refine me_iconst (pc' := 315) (v := 2) dL_law_314 rfl kc_i2 ?_
  refine me_iadd (pc' := 316) dL_law_315 rfl ?_
  refine mm_guard (fun c2 => ?_)
  refine me_scld (pc' := 317) dL_law_316 rfl c2 ?_
  refine me_aload_n (pc' := 318) (i := 0) dL_law_317 rfl rfl rfl ?_
  refine me_iload (pc' := 320) (i := 5) dL_law_318 rfl rfl ?_
  refine me_iconst (pc' := 321) (v := 3) dL_law_320 rfl kc_i3 ?_
  refine me_iadd (pc' := 322) dL_law_321 rfl ?_
  refine mm_guard (fun c3 => ?_)
  refine me_scld (pc' := 323) dL_law_322 rfl c3 ?_
  refine me_aload_n (pc' := 324) (i := 0) dL_law_323 rfl rfl rfl ?_
  refine me_iload (pc' := 326) (i := 5) dL_law_324 rfl rfl ?_
  refine me_iconst (pc' := 327) (v := 4) dL_law_326 rfl kc_i4 ?_
  refine me_iadd (pc' := 328) dL_law_327 rfl ?_
  refine mm_guard (fun c4 => ?_)
  refine me_scld (pc' := 329) dL_law_328 rfl c4 ?_
  refine me_aload_n (pc' := 330) (i := 0) dL_law_329 rfl rfl rfl ?_
  refine me_iload (pc' := 332) (i := 5) dL_law_330 rfl rfl ?_
  refine me_iconst (pc' := 333) (v := 5) dL_law_332 rfl kc_i5 ?_
  refine me_iadd (pc' := 334) dL_law_333 rfl ?_
  refine mm_guard (fun c5 => ?_)
  refine me_scld (pc' := 335) dL_law_334 rfl c5 ?_
  refine me_aload_n (pc' := 336) (i := 3) dL_law_335 rfl rfl rfl ?_
  refine me_callSX (As := [.ref 0, .int (mh_I h 360 (Int32.toNatClampNeg ((i + 1)) + 1)), .int (mh_I h 360 (Int32.toNatClampNeg ((i + 2)) + 1)), .int (mh_I h 360 (Int32.toNatClampNeg ((i + 3)) + 1)), .int (mh_I h 360 (Int32.toNatClampNeg ((i + 4)) + 1)), .int (mh_I h 360 (Int32.toNatClampNeg ((i + 5)) + 1)), .ref 358]) (st := []) (F' := mm_SQ) (G' := mm_SQ) (F'' := mm_SQ) (pc' := 339) dL_law_336 rfl mfL_append rfl lx_180 ⟨Nat.le_of_ble_eq_true rfl, Nat.le_of_ble_eq_true rfl⟩ (Nat.le_of_ble_eq_true rfl) (fun z => z) (mm_RQ (fun t => rL_append (q := (360, t)) ((mh_I h 360 (Int32.toNatClampNeg ((i + 1)) + 1))) ((mh_I h 360 (Int32.toNatClampNeg ((i + 2)) + 1))) ((mh_I h 360 (Int32.toNatClampNeg ((i + 3)) + 1))) ((mh_I h 360 (Int32.toNatClampNeg ((i + 4)) + 1))) ((mh_I h 360 (Int32.toNatClampNeg ((i + 5)) + 1))) h (Nat.le_of_ble_eq_true rfl))) (fun x6 e7 => Or.inl ⟨_, _, rfl, fun z => z, ?_⟩)
  show mm_E2 _ _ _ _ _ [.int x6.1] x6.2 _ _
  refine me_istore (pc' := 341) (i := 6) (L' := [some (.ref 360), some (.ref 0), some (.ref 352), some (.ref 358), some (.ref 359), some (.int i), some (.int x6.1), none, none]) dL_law_339 rfl (Nat.le_of_ble_eq_true rfl) (Nat.le_of_ble_eq_true rfl) rfl ?_
  refine me_aload_n (pc' := 342) (i := 2) dL_law_341 rfl rfl rfl ?_
  refine me_aload_n (pc' := 343) (i := 0) dL_law_342 rfl rfl rfl ?_
  refine me_iload (pc' := 345) (i := 5) dL_law_343 rfl rfl ?_
  refine me_iconst (pc' := 346) (v := 1) dL_law_345 rfl kc_i1 ?_
  refine me_iadd (pc' := 347) dL_law_346 rfl ?_
  refine mm_guard (fun c8 => ?_)
  refine me_scld (pc' := 348) dL_law_347 rfl c8 ?_
  refine me_aload_n (pc' := 349) (i := 0) dL_law_348 rfl rfl rfl ?_
  refine me_iload (pc' := 351) (i := 5) dL_law_349 rfl rfl ?_
  refine me_iconst (pc' := 352) (v := 2) dL_law_351 rfl kc_i2 ?_
  refine me_iadd (pc' := 353) dL_law_352 rfl ?_
  refine mm_guard (fun c9 => ?_)
  refine me_scld (pc' := 354) dL_law_353 rfl c9 ?_
  refine me_aload_n (pc' := 355) (i := 0) dL_law_354 rfl rfl rfl ?_
  refine me_iload (pc' := 357) (i := 5) dL_law_355 rfl rfl ?_
  refine me_iconst (pc' := 358) (v := 3) dL_law_357 rfl kc_i3 ?_
  refine me_iadd (pc' := 359) dL_law_358 rfl ?_
  refine mm_guard (fun c10 => ?_)
  refine me_scld (pc' := 360) dL_law_359 rfl c10 ?_
  refine me_aload_n (pc' := 361) (i := 0) dL_law_360 rfl rfl rfl ?_
  refine me_iload (pc' := 363) (i := 5) dL_law_361 rfl rfl ?_
  refine me_iconst (pc' := 364) (v := 4) dL_law_363 rfl kc_i4 ?_
  refine me_iadd (pc' := 365) dL_law_364 rfl ?_
  refine mm_guard (fun c11 => ?_)
  refine me_scld (pc' := 366) dL_law_365 rfl c11 ?_
  refine me_aload_n (pc' := 367) (i := 0) dL_law_366 rfl rfl rfl ?_
  refine me_iload (pc' := 369) (i := 5) dL_law_367 rfl rfl ?_
  refine me_iconst (pc' := 370) (v := 5) dL_law_369 rfl kc_i5 ?_
  refine me_iadd (pc' := 371) dL_law_370 rfl ?_
  refine mm_guard (fun c12 => ?_)
  refine me_scld (pc' := 372) dL_law_371 rfl c12 ?_
  refine me_callV (As := [.int (mh_I x6.2 360 (Int32.toNatClampNeg ((i + 1)) + 1)), .int (mh_I x6.2 360 (Int32.toNatClampNeg ((i + 2)) + 1)), .int (mh_I x6.2 360 (Int32.toNatClampNeg ((i + 3)) + 1)), .int (mh_I x6.2 360 (Int32.toNatClampNeg ((i + 4)) + 1)), .int (mh_I x6.2 360 (Int32.toNatClampNeg ((i + 5)) + 1))]) (st := []) (F' := mm_SQ) (G' := mm_SQ) (F'' := mm_SQ) (pc' := 375) dL_law_372 rfl mfX11_append rfl lkL_185 kd_352 rfl (mm_ltQ kd_352) ⟨Nat.le_of_ble_eq_true rfl, Nat.le_of_ble_eq_true rfl⟩ (Nat.le_of_ble_eq_true rfl) (fun z => z) (mm_RQ (fun t => rX11_append (q := (360, t)) ((mh_I x6.2 360 (Int32.toNatClampNeg ((i + 1)) + 1))) ((mh_I x6.2 360 (Int32.toNatClampNeg ((i + 2)) + 1))) ((mh_I x6.2 360 (Int32.toNatClampNeg ((i + 3)) + 1))) ((mh_I x6.2 360 (Int32.toNatClampNeg ((i + 4)) + 1))) ((mh_I x6.2 360 (Int32.toNatClampNeg ((i + 5)) + 1))) x6.2 (Nat.le_of_ble_eq_true rfl))) (fun x13 e14 => Or.inl ⟨_, _, rfl, fun z => z, ?_⟩)
  show mm_E2 _ _ _ _ _ [.int x13.1] x13.2 _ _
  refine me_istore (pc' := 377) (i := 7) (L' := [some (.ref 360), some (.ref 0), some (.ref 352), some (.ref 358), some (.ref 359), some (.int i), some (.int x6.1), some (.int x13.1), none]) dL_law_375 rfl (Nat.le_of_ble_eq_true rfl) (Nat.le_of_ble_eq_true rfl) rfl ?_
  refine me_aload_n (pc' := 378) (i := 2) dL_law_377 rfl rfl rfl ?_
  refine me_callV (As := []) (st := []) (F' := mm_SQ) (G' := mm_SQ) (F'' := mm_SQ) (pc' := 381) dL_law_378 rfl mfX11_thrown rfl lkL_186 kd_352 rfl (mm_ltQ kd_352) ⟨Nat.le_of_ble_eq_true rfl, Nat.le_of_ble_eq_true rfl⟩ (Nat.le_of_ble_eq_true rfl) (fun z => z) (mm_RQ (fun t => rX11_thrown (q := (360, t)) x13.2 (Nat.le_of_ble_eq_true rfl))) (fun x15 e16 => Or.inl ⟨_, _, rfl, fun z => z, ?_⟩)
  show mm_E2 _ _ _ _ _ [.int x15] x13.2 _ _
  refine me_iload (pc' := 383) (i := 6) dL_law_381 rfl rfl ?_
  refine me_icmp_eq (pc' := 386) (tgt := 388) dL_law_383 (by decide) rfl (fun c17 => ?_) (fun c17 => ?_)
  · refine me_iload (pc' := 390) (i := 6) dL_law_388 rfl rfl ?_
    refine mm_jnI (fun (j189 : Unit → Option (Bool × mm_H)) => ∀ (_ : Unit), mm_E2 mm_SQ mm_SQ mL_law 405 [some (.ref 360), some (.ref 0), some (.ref 352), some (.ref 358), some (.ref 359), some (.int i), none, none, none] [] x13.2 (j189 ()) lf_ze) ?_ (fun j18 j18p => ?_)
    · intro _
      refine me_goto (tgt := 3496) dL_law_405 (by decide) ?_
      exact jp x13.2
    refine me_if_ne (pc' := 393) (tgt := 405) dL_law_390 (by decide) rfl (fun c19 => ?_) (fun c19 => ?_)
    · exact mm_maskB [true, true, true, true, true, true, false, false, false] (j18p ())
    · refine me_aload_n (pc' := 394) (i := 3) dL_law_393 rfl rfl rfl ?_
      refine me_iconst (pc' := 395) (v := 0) dL_law_394 rfl kc_i0 ?_
      refine mm_guard (fun c20 => ?_)
      refine me_lald (pc' := 396) dL_law_395 rfl kd_358 (mm_ltQ kd_358) (mm_ibd_of c20) ?_
      refine me_iload (pc' := 398) (i := 7) dL_law_396 rfl rfl ?_
      refine me_i2l (pc' := 399) dL_law_398 rfl ?_
      refine me_lcmp (pc' := 400) dL_law_399 rfl ?_
      refine me_if_eq (pc' := 403) (tgt := 405) dL_law_400 (by decide) rfl (fun c21 => ?_) (fun c21 => ?_)
      · exact mm_maskB [true, true, true, true, true, true, false, false, false] (j18p ())
      · refine me_iconst (pc' := 404) (v := 0) dL_law_403 rfl kc_i0 ?_
        exact me_zret (b := false) dL_law_404 rfl (fun z => z) rfl
  · refine me_iconst (pc' := 387) (v := 0) dL_law_386 rfl kc_i0 ?_
    exact me_zret (b := false) dL_law_387 rfl (fun z => z) rfl
def gL_c408 (i : Int32) (j : mm_H → Option (Bool × mm_H)) (h : mm_H) : Option (Bool × mm_H) :=
if mm_isb ((i + 1)) (mh_I h 360 0) = true then
(gL_truncate ((mh_I h 360 (Int32.toNatClampNeg ((i + 1)) + 1))) h).bind (fun (x2 : (Int32 × mm_H)) =>
if mm_isb ((i + 1)) (mh_I x2.2 360 0) = true then
(gX11_truncate ((mh_I x2.2 360 (Int32.toNatClampNeg ((i + 1)) + 1))) x2.2).bind (fun (x5 : (Int32 × mm_H)) =>
(gX11_thrown x5.2).bind (fun (x7 : Int32) =>
if x7 = x2.1 then
mm_jn (fun (_ : Unit) =>
j x5.2) (fun (j10 : Unit → Option (Bool × mm_H)) =>
if x2.1 = 0 then
if mm_ibd 0 1 = true then
if (lg_cmp ((mh_J x5.2 358 (Int32.toNatClampNeg (0)))) ((x5.1).toInt64)) = 0 then
j10 ()
else
some (false, x5.2) else none
else
j10 ())
else
some (false, x5.2))) else none) else none
theorem rL_c408 (i : Int32) (j : mm_H → Option (Bool × mm_H)) (jp : ∀ h, mm_E2 mm_SQ mm_SQ mL_law 3496 [some (.ref 360), some (.ref 0), some (.ref 352), some (.ref 358), some (.ref 359), some (.int i), none, none, none] [] h (j h) lf_ze) (h : mm_H) : mm_E2 mm_SQ mm_SQ mL_law 408 [some (.ref 360), some (.ref 0), some (.ref 352), some (.ref 358), some (.ref 359), some (.int i), none, none, none] [] h (gL_c408 i j h) lf_ze := by
  unfold gL_c408
  refine me_aload_n (pc' := 409) (i := 1) dL_law_408 rfl rfl rfl ?_
  refine me_aload_n (pc' := 410) (i := 0) dL_law_409 rfl rfl rfl ?_
  refine me_iload (pc' := 412) (i := 5) dL_law_410 rfl rfl ?_
  refine me_iconst (pc' := 413) (v := 1) dL_law_412 rfl kc_i1 ?_
  refine me_iadd (pc' := 414) dL_law_413 rfl ?_
  refine mm_guard (fun c1 => ?_)
  refine me_scld (pc' := 415) dL_law_414 rfl c1 ?_
  refine me_aload_n (pc' := 416) (i := 3) dL_law_415 rfl rfl rfl ?_
  refine me_callSX (As := [.ref 0, .int (mh_I h 360 (Int32.toNatClampNeg ((i + 1)) + 1)), .ref 358]) (st := []) (F' := mm_SQ) (G' := mm_SQ) (F'' := mm_SQ) (pc' := 419) dL_law_416 rfl mfL_truncate rfl lx_189 ⟨Nat.le_of_ble_eq_true rfl, Nat.le_of_ble_eq_true rfl⟩ (Nat.le_of_ble_eq_true rfl) (fun z => z) (mm_RQ (fun t => rL_truncate (q := (360, t)) ((mh_I h 360 (Int32.toNatClampNeg ((i + 1)) + 1))) h (Nat.le_of_ble_eq_true rfl))) (fun x2 e3 => Or.inl ⟨_, _, rfl, fun z => z, ?_⟩)
  show mm_E2 _ _ _ _ _ [.int x2.1] x2.2 _ _
  refine me_istore (pc' := 421) (i := 6) (L' := [some (.ref 360), some (.ref 0), some (.ref 352), some (.ref 358), some (.ref 359), some (.int i), some (.int x2.1), none, none]) dL_law_419 rfl (Nat.le_of_ble_eq_true rfl) (Nat.le_of_ble_eq_true rfl) rfl ?_
  refine me_aload_n (pc' := 422) (i := 2) dL_law_421 rfl rfl rfl ?_
  refine me_aload_n (pc' := 423) (i := 0) dL_law_422 rfl rfl rfl ?_
  refine me_iload (pc' := 425) (i := 5) dL_law_423 rfl rfl ?_
  refine me_iconst (pc' := 426) (v := 1) dL_law_425 rfl kc_i1 ?_
  refine me_iadd (pc' := 427) dL_law_426 rfl ?_
  refine mm_guard (fun c4 => ?_)
  refine me_scld (pc' := 428) dL_law_427 rfl c4 ?_
  refine me_callV (As := [.int (mh_I x2.2 360 (Int32.toNatClampNeg ((i + 1)) + 1))]) (st := []) (F' := mm_SQ) (G' := mm_SQ) (F'' := mm_SQ) (pc' := 431) dL_law_428 rfl mfX11_truncate rfl lkL_192 kd_352 rfl (mm_ltQ kd_352) ⟨Nat.le_of_ble_eq_true rfl, Nat.le_of_ble_eq_true rfl⟩ (Nat.le_of_ble_eq_true rfl) (fun z => z) (mm_RQ (fun t => rX11_truncate (q := (360, t)) ((mh_I x2.2 360 (Int32.toNatClampNeg ((i + 1)) + 1))) x2.2 (Nat.le_of_ble_eq_true rfl))) (fun x5 e6 => Or.inl ⟨_, _, rfl, fun z => z, ?_⟩)
  show mm_E2 _ _ _ _ _ [.int x5.1] x5.2 _ _
  refine me_istore (pc' := 433) (i := 7) (L' := [some (.ref 360), some (.ref 0), some (.ref 352), some (.ref 358), some (.ref 359), some (.int i), some (.int x2.1), some (.int x5.1), none]) dL_law_431 rfl (Nat.le_of_ble_eq_true rfl) (Nat.le_of_ble_eq_true rfl) rfl ?_
  refine me_aload_n (pc' := 434) (i := 2) dL_law_433 rfl rfl rfl ?_
  refine me_callV (As := []) (st := []) (F' := mm_SQ) (G' := mm_SQ) (F'' := mm_SQ) (pc' := 437) dL_law_434 rfl mfX11_thrown rfl lkL_186 kd_352 rfl (mm_ltQ kd_352) ⟨Nat.le_of_ble_eq_true rfl, Nat.le_of_ble_eq_true rfl⟩ (Nat.le_of_ble_eq_true rfl) (fun z => z) (mm_RQ (fun t => rX11_thrown (q := (360, t)) x5.2 (Nat.le_of_ble_eq_true rfl))) (fun x7 e8 => Or.inl ⟨_, _, rfl, fun z => z, ?_⟩)
  show mm_E2 _ _ _ _ _ [.int x7] x5.2 _ _
  refine me_iload (pc' := 439) (i := 6) dL_law_437 rfl rfl ?_
  refine me_icmp_eq (pc' := 442) (tgt := 444) dL_law_439 (by decide) rfl (fun c9 => ?_) (fun c9 => ?_)
  · refine me_iload (pc' := 446) (i := 6) dL_law_444 rfl rfl ?_
    refine mm_jnI (fun (j109 : Unit → Option (Bool × mm_H)) => ∀ (_ : Unit), mm_E2 mm_SQ mm_SQ mL_law 461 [some (.ref 360), some (.ref 0), some (.ref 352), some (.ref 358), some (.ref 359), some (.int i), none, none, none] [] x5.2 (j109 ()) lf_ze) ?_ (fun j10 j10p => ?_)
    · intro _
      refine me_goto (tgt := 3496) dL_law_461 (by decide) ?_
      exact jp x5.2
    refine me_if_ne (pc' := 449) (tgt := 461) dL_law_446 (by decide) rfl (fun c11 => ?_) (fun c11 => ?_)
    · exact mm_maskB [true, true, true, true, true, true, false, false, false] (j10p ())
    · refine me_aload_n (pc' := 450) (i := 3) dL_law_449 rfl rfl rfl ?_
      refine me_iconst (pc' := 451) (v := 0) dL_law_450 rfl kc_i0 ?_
      refine mm_guard (fun c12 => ?_)
      refine me_lald (pc' := 452) dL_law_451 rfl kd_358 (mm_ltQ kd_358) (mm_ibd_of c12) ?_
      refine me_iload (pc' := 454) (i := 7) dL_law_452 rfl rfl ?_
      refine me_i2l (pc' := 455) dL_law_454 rfl ?_
      refine me_lcmp (pc' := 456) dL_law_455 rfl ?_
      refine me_if_eq (pc' := 459) (tgt := 461) dL_law_456 (by decide) rfl (fun c13 => ?_) (fun c13 => ?_)
      · exact mm_maskB [true, true, true, true, true, true, false, false, false] (j10p ())
      · refine me_iconst (pc' := 460) (v := 0) dL_law_459 rfl kc_i0 ?_
        exact me_zret (b := false) dL_law_460 rfl (fun z => z) rfl
  · refine me_iconst (pc' := 443) (v := 0) dL_law_442 rfl kc_i0 ?_
    exact me_zret (b := false) dL_law_443 rfl (fun z => z) rfl
def gL_c464 (i : Int32) (j : mm_H → Option (Bool × mm_H)) (h : mm_H) : Option (Bool × mm_H) :=
(gL_load h).bind (fun (x1 : (Int32 × mm_H)) =>
(gX11_load x1.2).bind (fun (x3 : (Int32 × mm_H)) =>
(gX11_thrown x3.2).bind (fun (x5 : Int32) =>
if x5 = x1.1 then
mm_jn (fun (_ : Unit) =>
j x3.2) (fun (j8 : Unit → Option (Bool × mm_H)) =>
if x1.1 = 0 then
if mm_ibd 0 1 = true then
if (lg_cmp ((mh_J x3.2 358 (Int32.toNatClampNeg (0)))) ((x3.1).toInt64)) = 0 then
j8 ()
else
some (false, x3.2) else none
else
j8 ())
else
some (false, x3.2))))
theorem rL_c464 (i : Int32) (j : mm_H → Option (Bool × mm_H)) (jp : ∀ h, mm_E2 mm_SQ mm_SQ mL_law 3496 [some (.ref 360), some (.ref 0), some (.ref 352), some (.ref 358), some (.ref 359), some (.int i), none, none, none] [] h (j h) lf_ze) (h : mm_H) : mm_E2 mm_SQ mm_SQ mL_law 464 [some (.ref 360), some (.ref 0), some (.ref 352), some (.ref 358), some (.ref 359), some (.int i), none, none, none] [] h (gL_c464 i j h) lf_ze := by
  unfold gL_c464
  refine me_aload_n (pc' := 465) (i := 1) dL_law_464 rfl rfl rfl ?_
  refine me_aload_n (pc' := 466) (i := 3) dL_law_465 rfl rfl rfl ?_
  refine me_callSX (As := [.ref 0, .ref 358]) (st := []) (F' := mm_SQ) (G' := mm_SQ) (F'' := mm_SQ) (pc' := 469) dL_law_466 rfl mfL_load rfl lx_193 ⟨Nat.le_of_ble_eq_true rfl, Nat.le_of_ble_eq_true rfl⟩ (Nat.le_of_ble_eq_true rfl) (fun z => z) (mm_RQ1 (fun t => rL_load (q := (360, t)) h (Nat.le_of_ble_eq_true rfl))) (fun x1 e2 => Or.inl ⟨_, _, rfl, fun z => z, ?_⟩)
  show mm_E2 _ _ _ _ _ [.int x1.1] x1.2 _ _
  refine me_istore (pc' := 471) (i := 6) (L' := [some (.ref 360), some (.ref 0), some (.ref 352), some (.ref 358), some (.ref 359), some (.int i), some (.int x1.1), none, none]) dL_law_469 rfl (Nat.le_of_ble_eq_true rfl) (Nat.le_of_ble_eq_true rfl) rfl ?_
  refine me_aload_n (pc' := 472) (i := 2) dL_law_471 rfl rfl rfl ?_
  refine me_callV (As := []) (st := []) (F' := mm_SQ) (G' := mm_SQ) (F'' := mm_SQ) (pc' := 475) dL_law_472 rfl mfX11_load rfl lkL_196 kd_352 rfl (mm_ltQ kd_352) ⟨Nat.le_of_ble_eq_true rfl, Nat.le_of_ble_eq_true rfl⟩ (Nat.le_of_ble_eq_true rfl) (fun z => z) (mm_RQ (fun t => rX11_load (q := (360, t)) x1.2 (Nat.le_of_ble_eq_true rfl))) (fun x3 e4 => Or.inl ⟨_, _, rfl, fun z => z, ?_⟩)
  show mm_E2 _ _ _ _ _ [.int x3.1] x3.2 _ _
  refine me_istore (pc' := 477) (i := 7) (L' := [some (.ref 360), some (.ref 0), some (.ref 352), some (.ref 358), some (.ref 359), some (.int i), some (.int x1.1), some (.int x3.1), none]) dL_law_475 rfl (Nat.le_of_ble_eq_true rfl) (Nat.le_of_ble_eq_true rfl) rfl ?_
  refine me_aload_n (pc' := 478) (i := 2) dL_law_477 rfl rfl rfl ?_
  refine me_callV (As := []) (st := []) (F' := mm_SQ) (G' := mm_SQ) (F'' := mm_SQ) (pc' := 481) dL_law_478 rfl mfX11_thrown rfl lkL_186 kd_352 rfl (mm_ltQ kd_352) ⟨Nat.le_of_ble_eq_true rfl, Nat.le_of_ble_eq_true rfl⟩ (Nat.le_of_ble_eq_true rfl) (fun z => z) (mm_RQ (fun t => rX11_thrown (q := (360, t)) x3.2 (Nat.le_of_ble_eq_true rfl))) (fun x5 e6 => Or.inl ⟨_, _, rfl, fun z => z, ?_⟩)
  show mm_E2 _ _ _ _ _ [.int x5] x3.2 _ _
  refine me_iload (pc' := 483) (i := 6) dL_law_481 rfl rfl ?_
  refine me_icmp_eq (pc' := 486) (tgt := 488) dL_law_483 (by decide) rfl (fun c7 => ?_) (fun c7 => ?_)
  · refine me_iload (pc' := 490) (i := 6) dL_law_488 rfl rfl ?_
    refine mm_jnI (fun (j89 : Unit → Option (Bool × mm_H)) => ∀ (_ : Unit), mm_E2 mm_SQ mm_SQ mL_law 505 [some (.ref 360), some (.ref 0), some (.ref 352), some (.ref 358), some (.ref 359), some (.int i), none, none, none] [] x3.2 (j89 ()) lf_ze) ?_ (fun j8 j8p => ?_)
    · intro _
      refine me_goto (tgt := 3496) dL_law_505 (by decide) ?_
      exact jp x3.2
    refine me_if_ne (pc' := 493) (tgt := 505) dL_law_490 (by decide) rfl (fun c9 => ?_) (fun c9 => ?_)
    · exact mm_maskB [true, true, true, true, true, true, false, false, false] (j8p ())
    · refine me_aload_n (pc' := 494) (i := 3) dL_law_493 rfl rfl rfl ?_
      refine me_iconst (pc' := 495) (v := 0) dL_law_494 rfl kc_i0 ?_
      refine mm_guard (fun c10 => ?_)
      refine me_lald (pc' := 496) dL_law_495 rfl kd_358 (mm_ltQ kd_358) (mm_ibd_of c10) ?_
      refine me_iload (pc' := 498) (i := 7) dL_law_496 rfl rfl ?_
      refine me_i2l (pc' := 499) dL_law_498 rfl ?_
      refine me_lcmp (pc' := 500) dL_law_499 rfl ?_
      refine me_if_eq (pc' := 503) (tgt := 505) dL_law_500 (by decide) rfl (fun c11 => ?_) (fun c11 => ?_)
      · exact mm_maskB [true, true, true, true, true, true, false, false, false] (j8p ())
      · refine me_iconst (pc' := 504) (v := 0) dL_law_503 rfl kc_i0 ?_
        exact me_zret (b := false) dL_law_504 rfl (fun z => z) rfl
  · refine me_iconst (pc' := 487) (v := 0) dL_law_486 rfl kc_i0 ?_
    exact me_zret (b := false) dL_law_487 rfl (fun z => z) rfl
def gL_c508 (i : Int32) (j : mm_H → Option (Bool × mm_H)) (h : mm_H) : Option (Bool × mm_H) :=
(gX10_errorCode h).bind (fun (x1 : Int32) =>
(gX11_errorCode h).bind (fun (x3 : (Int32 × mm_H)) =>
if x1 = x3.1 then
j x3.2
else
some (false, x3.2)))
theorem rL_c508 (i : Int32) (j : mm_H → Option (Bool × mm_H)) (jp : ∀ h, mm_E2 mm_SQ mm_SQ mL_law 3496 [some (.ref 360), some (.ref 0), some (.ref 352), some (.ref 358), some (.ref 359), some (.int i), none, none, none] [] h (j h) lf_ze) (h : mm_H) : mm_E2 mm_SQ mm_SQ mL_law 508 [some (.ref 360), some (.ref 0), some (.ref 352), some (.ref 358), some (.ref 359), some (.int i), none, none, none] [] h (gL_c508 i j h) lf_ze := by
  unfold gL_c508
  refine me_aload_n (pc' := 509) (i := 1) dL_law_508 rfl rfl rfl ?_
  refine me_callV (As := []) (st := []) (F' := mm_SQ) (G' := mm_SQ) (F'' := mm_SQ) (pc' := 512) dL_law_509 rfl mfX10_errorCode rfl lkL_197 kd_0 rfl (mm_ltQ kd_0) ⟨Nat.le_of_ble_eq_true rfl, Nat.le_of_ble_eq_true rfl⟩ (Nat.le_of_ble_eq_true rfl) (fun z => z) (mm_RQ (fun t => rX10_errorCode (q := (360, t)) h )) (fun x1 e2 => Or.inl ⟨_, _, rfl, fun z => z, ?_⟩)
  show mm_E2 _ _ _ _ _ [.int x1] h _ _
  refine me_aload_n (pc' := 513) (i := 2) dL_law_512 rfl rfl rfl ?_
  refine me_callV (As := []) (st := [.int x1]) (F' := mm_SQ) (G' := mm_SQ) (F'' := mm_SQ) (pc' := 516) dL_law_513 rfl mfX11_errorCode rfl lkL_200 kd_352 rfl (mm_ltQ kd_352) ⟨Nat.le_of_ble_eq_true rfl, Nat.le_of_ble_eq_true rfl⟩ (Nat.le_of_ble_eq_true rfl) (fun z => z) (mm_RQ (fun t => rX11_errorCode (q := (360, t)) h (Nat.le_of_ble_eq_true rfl))) (fun x3 e4 => Or.inl ⟨_, _, rfl, fun z => z, ?_⟩)
  show mm_E2 _ _ _ _ _ [.int x3.1, .int x1] x3.2 _ _
  refine me_icmp_eq (pc' := 519) (tgt := 3496) dL_law_516 (by decide) rfl (fun c5 => ?_) (fun c5 => ?_)
  · exact jp x3.2
  · refine me_iconst (pc' := 520) (v := 0) dL_law_519 rfl kc_i0 ?_
    exact me_zret (b := false) dL_law_520 rfl (fun z => z) rfl
def gL_c521 (i : Int32) (j : mm_H → Option (Bool × mm_H)) (h : mm_H) : Option (Bool × mm_H) :=
(gX10_errorPosition h).bind (fun (x1 : Int32) =>
(gX11_errorPosition h).bind (fun (x3 : (Int32 × mm_H)) =>
if x1 = x3.1 then
j x3.2
else
some (false, x3.2)))
theorem rL_c521 (i : Int32) (j : mm_H → Option (Bool × mm_H)) (jp : ∀ h, mm_E2 mm_SQ mm_SQ mL_law 3496 [some (.ref 360), some (.ref 0), some (.ref 352), some (.ref 358), some (.ref 359), some (.int i), none, none, none] [] h (j h) lf_ze) (h : mm_H) : mm_E2 mm_SQ mm_SQ mL_law 521 [some (.ref 360), some (.ref 0), some (.ref 352), some (.ref 358), some (.ref 359), some (.int i), none, none, none] [] h (gL_c521 i j h) lf_ze := by
  unfold gL_c521
  refine me_aload_n (pc' := 522) (i := 1) dL_law_521 rfl rfl rfl ?_
  refine me_callV (As := []) (st := []) (F' := mm_SQ) (G' := mm_SQ) (F'' := mm_SQ) (pc' := 525) dL_law_522 rfl mfX10_errorPosition rfl lkL_201 kd_0 rfl (mm_ltQ kd_0) ⟨Nat.le_of_ble_eq_true rfl, Nat.le_of_ble_eq_true rfl⟩ (Nat.le_of_ble_eq_true rfl) (fun z => z) (mm_RQ (fun t => rX10_errorPosition (q := (360, t)) h )) (fun x1 e2 => Or.inl ⟨_, _, rfl, fun z => z, ?_⟩)
  show mm_E2 _ _ _ _ _ [.int x1] h _ _
  refine me_aload_n (pc' := 526) (i := 2) dL_law_525 rfl rfl rfl ?_
  refine me_callV (As := []) (st := [.int x1]) (F' := mm_SQ) (G' := mm_SQ) (F'' := mm_SQ) (pc' := 529) dL_law_526 rfl mfX11_errorPosition rfl lkL_204 kd_352 rfl (mm_ltQ kd_352) ⟨Nat.le_of_ble_eq_true rfl, Nat.le_of_ble_eq_true rfl⟩ (Nat.le_of_ble_eq_true rfl) (fun z => z) (mm_RQ (fun t => rX11_errorPosition (q := (360, t)) h (Nat.le_of_ble_eq_true rfl))) (fun x3 e4 => Or.inl ⟨_, _, rfl, fun z => z, ?_⟩)
  show mm_E2 _ _ _ _ _ [.int x3.1, .int x1] x3.2 _ _
  refine me_icmp_eq (pc' := 532) (tgt := 3496) dL_law_529 (by decide) rfl (fun c5 => ?_) (fun c5 => ?_)
  · exact jp x3.2
  · refine me_iconst (pc' := 533) (v := 0) dL_law_532 rfl kc_i0 ?_
    exact me_zret (b := false) dL_law_533 rfl (fun z => z) rfl
def gL_c534 (i : Int32) (j : mm_H → Option (Bool × mm_H)) (h : mm_H) : Option (Bool × mm_H) :=
(gX10_productCount h).bind (fun (x1 : Int32) =>
(gX11_productCount h).bind (fun (x3 : (Int32 × mm_H)) =>
if x1 = x3.1 then
j x3.2
else
some (false, x3.2)))
theorem rL_c534 (i : Int32) (j : mm_H → Option (Bool × mm_H)) (jp : ∀ h, mm_E2 mm_SQ mm_SQ mL_law 3496 [some (.ref 360), some (.ref 0), some (.ref 352), some (.ref 358), some (.ref 359), some (.int i), none, none, none] [] h (j h) lf_ze) (h : mm_H) : mm_E2 mm_SQ mm_SQ mL_law 534 [some (.ref 360), some (.ref 0), some (.ref 352), some (.ref 358), some (.ref 359), some (.int i), none, none, none] [] h (gL_c534 i j h) lf_ze := by
  unfold gL_c534
  refine me_aload_n (pc' := 535) (i := 1) dL_law_534 rfl rfl rfl ?_
  refine me_callV (As := []) (st := []) (F' := mm_SQ) (G' := mm_SQ) (F'' := mm_SQ) (pc' := 538) dL_law_535 rfl mfX10_productCount rfl lkL_205 kd_0 rfl (mm_ltQ kd_0) ⟨Nat.le_of_ble_eq_true rfl, Nat.le_of_ble_eq_true rfl⟩ (Nat.le_of_ble_eq_true rfl) (fun z => z) (mm_RQ (fun t => rX10_productCount (q := (360, t)) h )) (fun x1 e2 => Or.inl ⟨_, _, rfl, fun z => z, ?_⟩)
  show mm_E2 _ _ _ _ _ [.int x1] h _ _
  refine me_aload_n (pc' := 539) (i := 2) dL_law_538 rfl rfl rfl ?_
  refine me_callV (As := []) (st := [.int x1]) (F' := mm_SQ) (G' := mm_SQ) (F'' := mm_SQ) (pc' := 542) dL_law_539 rfl mfX11_productCount rfl lkL_208 kd_352 rfl (mm_ltQ kd_352) ⟨Nat.le_of_ble_eq_true rfl, Nat.le_of_ble_eq_true rfl⟩ (Nat.le_of_ble_eq_true rfl) (fun z => z) (mm_RQ (fun t => rX11_productCount (q := (360, t)) h (Nat.le_of_ble_eq_true rfl))) (fun x3 e4 => Or.inl ⟨_, _, rfl, fun z => z, ?_⟩)
  show mm_E2 _ _ _ _ _ [.int x3.1, .int x1] x3.2 _ _
  refine me_icmp_eq (pc' := 545) (tgt := 3496) dL_law_542 (by decide) rfl (fun c5 => ?_) (fun c5 => ?_)
  · exact jp x3.2
  · refine me_iconst (pc' := 546) (v := 0) dL_law_545 rfl kc_i0 ?_
    exact me_zret (b := false) dL_law_546 rfl (fun z => z) rfl
def gL_c547 (i : Int32) (j : mm_H → Option (Bool × mm_H)) (h : mm_H) : Option (Bool × mm_H) :=
(gX10_day h).bind (fun (x1 : Int32) =>
(gX11_day h).bind (fun (x3 : (Int32 × mm_H)) =>
if x1 = x3.1 then
j x3.2
else
some (false, x3.2)))
theorem rL_c547 (i : Int32) (j : mm_H → Option (Bool × mm_H)) (jp : ∀ h, mm_E2 mm_SQ mm_SQ mL_law 3496 [some (.ref 360), some (.ref 0), some (.ref 352), some (.ref 358), some (.ref 359), some (.int i), none, none, none] [] h (j h) lf_ze) (h : mm_H) : mm_E2 mm_SQ mm_SQ mL_law 547 [some (.ref 360), some (.ref 0), some (.ref 352), some (.ref 358), some (.ref 359), some (.int i), none, none, none] [] h (gL_c547 i j h) lf_ze := by
  unfold gL_c547
  refine me_aload_n (pc' := 548) (i := 1) dL_law_547 rfl rfl rfl ?_
  refine me_callV (As := []) (st := []) (F' := mm_SQ) (G' := mm_SQ) (F'' := mm_SQ) (pc' := 551) dL_law_548 rfl mfX10_day rfl lkL_209 kd_0 rfl (mm_ltQ kd_0) ⟨Nat.le_of_ble_eq_true rfl, Nat.le_of_ble_eq_true rfl⟩ (Nat.le_of_ble_eq_true rfl) (fun z => z) (mm_RQ (fun t => rX10_day (q := (360, t)) h )) (fun x1 e2 => Or.inl ⟨_, _, rfl, fun z => z, ?_⟩)
  show mm_E2 _ _ _ _ _ [.int x1] h _ _
  refine me_aload_n (pc' := 552) (i := 2) dL_law_551 rfl rfl rfl ?_
  refine me_callV (As := []) (st := [.int x1]) (F' := mm_SQ) (G' := mm_SQ) (F'' := mm_SQ) (pc' := 555) dL_law_552 rfl mfX11_day rfl lkL_212 kd_352 rfl (mm_ltQ kd_352) ⟨Nat.le_of_ble_eq_true rfl, Nat.le_of_ble_eq_true rfl⟩ (Nat.le_of_ble_eq_true rfl) (fun z => z) (mm_RQ (fun t => rX11_day (q := (360, t)) h (Nat.le_of_ble_eq_true rfl))) (fun x3 e4 => Or.inl ⟨_, _, rfl, fun z => z, ?_⟩)
  show mm_E2 _ _ _ _ _ [.int x3.1, .int x1] x3.2 _ _
  refine me_icmp_eq (pc' := 558) (tgt := 3496) dL_law_555 (by decide) rfl (fun c5 => ?_) (fun c5 => ?_)
  · exact jp x3.2
  · refine me_iconst (pc' := 559) (v := 0) dL_law_558 rfl kc_i0 ?_
    exact me_zret (b := false) dL_law_559 rfl (fun z => z) rfl
def gL_c560 (i : Int32) (j : mm_H → Option (Bool × mm_H)) (h : mm_H) : Option (Bool × mm_H) :=
if mm_isb ((i + 1)) (mh_I h 360 0) = true then
if mm_isb ((i + 2)) (mh_I h 360 0) = true then
(gL_nameByte ((mh_I h 360 (Int32.toNatClampNeg ((i + 1)) + 1))) ((mh_I h 360 (Int32.toNatClampNeg ((i + 2)) + 1))) h).bind (fun (x3 : (Int32 × mm_H)) =>
if mm_isb ((i + 1)) (mh_I x3.2 360 0) = true then
if mm_isb ((i + 2)) (mh_I x3.2 360 0) = true then
(gX11_nameByte ((mh_I x3.2 360 (Int32.toNatClampNeg ((i + 1)) + 1))) ((mh_I x3.2 360 (Int32.toNatClampNeg ((i + 2)) + 1))) x3.2).bind (fun (x7 : (Int32 × mm_H)) =>
(gX11_thrown x7.2).bind (fun (x9 : Int32) =>
if x9 = x3.1 then
mm_jn (fun (_ : Unit) =>
j x7.2) (fun (j12 : Unit → Option (Bool × mm_H)) =>
if x3.1 = 0 then
if mm_ibd 0 1 = true then
if (lg_cmp ((mh_J x7.2 358 (Int32.toNatClampNeg (0)))) ((x7.1).toInt64)) = 0 then
j12 ()
else
some (false, x7.2) else none
else
j12 ())
else
some (false, x7.2))) else none else none) else none else none
theorem rL_c560 (i : Int32) (j : mm_H → Option (Bool × mm_H)) (jp : ∀ h, mm_E2 mm_SQ mm_SQ mL_law 3496 [some (.ref 360), some (.ref 0), some (.ref 352), some (.ref 358), some (.ref 359), some (.int i), none, none, none] [] h (j h) lf_ze) (h : mm_H) : mm_E2 mm_SQ mm_SQ mL_law 560 [some (.ref 360), some (.ref 0), some (.ref 352), some (.ref 358), some (.ref 359), some (.int i), none, none, none] [] h (gL_c560 i j h) lf_ze := by
  unfold gL_c560
  refine me_aload_n (pc' := 561) (i := 1) dL_law_560 rfl rfl rfl ?_
  refine me_aload_n (pc' := 562) (i := 0) dL_law_561 rfl rfl rfl ?_
  refine me_iload (pc' := 564) (i := 5) dL_law_562 rfl rfl ?_
  refine me_iconst (pc' := 565) (v := 1) dL_law_564 rfl kc_i1 ?_
  refine me_iadd (pc' := 566) dL_law_565 rfl ?_
  refine mm_guard (fun c1 => ?_)
  refine me_scld (pc' := 567) dL_law_566 rfl c1 ?_
  refine me_aload_n (pc' := 568) (i := 0) dL_law_567 rfl rfl rfl ?_
  refine me_iload (pc' := 570) (i := 5) dL_law_568 rfl rfl ?_
  refine me_iconst (pc' := 571) (v := 2) dL_law_570 rfl kc_i2 ?_
  refine me_iadd (pc' := 572) dL_law_571 rfl ?_
  refine mm_guard (fun c2 => ?_)
  refine me_scld (pc' := 573) dL_law_572 rfl c2 ?_
  refine me_aload_n (pc' := 574) (i := 3) dL_law_573 rfl rfl rfl ?_
  refine me_callSX (As := [.ref 0, .int (mh_I h 360 (Int32.toNatClampNeg ((i + 1)) + 1)), .int (mh_I h 360 (Int32.toNatClampNeg ((i + 2)) + 1)), .ref 358]) (st := []) (F' := mm_SQ) (G' := mm_SQ) (F'' := mm_SQ) (pc' := 577) dL_law_574 rfl mfL_nameByte rfl lx_213 ⟨Nat.le_of_ble_eq_true rfl, Nat.le_of_ble_eq_true rfl⟩ (Nat.le_of_ble_eq_true rfl) (fun z => z) (mm_RQ (fun t => rL_nameByte (q := (360, t)) ((mh_I h 360 (Int32.toNatClampNeg ((i + 1)) + 1))) ((mh_I h 360 (Int32.toNatClampNeg ((i + 2)) + 1))) h (Nat.le_of_ble_eq_true rfl))) (fun x3 e4 => Or.inl ⟨_, _, rfl, fun z => z, ?_⟩)
  show mm_E2 _ _ _ _ _ [.int x3.1] x3.2 _ _
  refine me_istore (pc' := 579) (i := 6) (L' := [some (.ref 360), some (.ref 0), some (.ref 352), some (.ref 358), some (.ref 359), some (.int i), some (.int x3.1), none, none]) dL_law_577 rfl (Nat.le_of_ble_eq_true rfl) (Nat.le_of_ble_eq_true rfl) rfl ?_
  refine me_aload_n (pc' := 580) (i := 2) dL_law_579 rfl rfl rfl ?_
  refine me_aload_n (pc' := 581) (i := 0) dL_law_580 rfl rfl rfl ?_
  refine me_iload (pc' := 583) (i := 5) dL_law_581 rfl rfl ?_
  refine me_iconst (pc' := 584) (v := 1) dL_law_583 rfl kc_i1 ?_
  refine me_iadd (pc' := 585) dL_law_584 rfl ?_
  refine mm_guard (fun c5 => ?_)
  refine me_scld (pc' := 586) dL_law_585 rfl c5 ?_
  refine me_aload_n (pc' := 587) (i := 0) dL_law_586 rfl rfl rfl ?_
  refine me_iload (pc' := 589) (i := 5) dL_law_587 rfl rfl ?_
  refine me_iconst (pc' := 590) (v := 2) dL_law_589 rfl kc_i2 ?_
  refine me_iadd (pc' := 591) dL_law_590 rfl ?_
  refine mm_guard (fun c6 => ?_)
  refine me_scld (pc' := 592) dL_law_591 rfl c6 ?_
  refine me_callV (As := [.int (mh_I x3.2 360 (Int32.toNatClampNeg ((i + 1)) + 1)), .int (mh_I x3.2 360 (Int32.toNatClampNeg ((i + 2)) + 1))]) (st := []) (F' := mm_SQ) (G' := mm_SQ) (F'' := mm_SQ) (pc' := 595) dL_law_592 rfl mfX11_nameByte rfl lkL_216 kd_352 rfl (mm_ltQ kd_352) ⟨Nat.le_of_ble_eq_true rfl, Nat.le_of_ble_eq_true rfl⟩ (Nat.le_of_ble_eq_true rfl) (fun z => z) (mm_RQ (fun t => rX11_nameByte (q := (360, t)) ((mh_I x3.2 360 (Int32.toNatClampNeg ((i + 1)) + 1))) ((mh_I x3.2 360 (Int32.toNatClampNeg ((i + 2)) + 1))) x3.2 (Nat.le_of_ble_eq_true rfl))) (fun x7 e8 => Or.inl ⟨_, _, rfl, fun z => z, ?_⟩)
  show mm_E2 _ _ _ _ _ [.int x7.1] x7.2 _ _
  refine me_istore (pc' := 597) (i := 7) (L' := [some (.ref 360), some (.ref 0), some (.ref 352), some (.ref 358), some (.ref 359), some (.int i), some (.int x3.1), some (.int x7.1), none]) dL_law_595 rfl (Nat.le_of_ble_eq_true rfl) (Nat.le_of_ble_eq_true rfl) rfl ?_
  refine me_aload_n (pc' := 598) (i := 2) dL_law_597 rfl rfl rfl ?_
  refine me_callV (As := []) (st := []) (F' := mm_SQ) (G' := mm_SQ) (F'' := mm_SQ) (pc' := 601) dL_law_598 rfl mfX11_thrown rfl lkL_186 kd_352 rfl (mm_ltQ kd_352) ⟨Nat.le_of_ble_eq_true rfl, Nat.le_of_ble_eq_true rfl⟩ (Nat.le_of_ble_eq_true rfl) (fun z => z) (mm_RQ (fun t => rX11_thrown (q := (360, t)) x7.2 (Nat.le_of_ble_eq_true rfl))) (fun x9 e10 => Or.inl ⟨_, _, rfl, fun z => z, ?_⟩)
  show mm_E2 _ _ _ _ _ [.int x9] x7.2 _ _
  refine me_iload (pc' := 603) (i := 6) dL_law_601 rfl rfl ?_
  refine me_icmp_eq (pc' := 606) (tgt := 608) dL_law_603 (by decide) rfl (fun c11 => ?_) (fun c11 => ?_)
  · refine me_iload (pc' := 610) (i := 6) dL_law_608 rfl rfl ?_
    refine mm_jnI (fun (j129 : Unit → Option (Bool × mm_H)) => ∀ (_ : Unit), mm_E2 mm_SQ mm_SQ mL_law 625 [some (.ref 360), some (.ref 0), some (.ref 352), some (.ref 358), some (.ref 359), some (.int i), none, none, none] [] x7.2 (j129 ()) lf_ze) ?_ (fun j12 j12p => ?_)
    · intro _
      refine me_goto (tgt := 3496) dL_law_625 (by decide) ?_
      exact jp x7.2
    refine me_if_ne (pc' := 613) (tgt := 625) dL_law_610 (by decide) rfl (fun c13 => ?_) (fun c13 => ?_)
    · exact mm_maskB [true, true, true, true, true, true, false, false, false] (j12p ())
    · refine me_aload_n (pc' := 614) (i := 3) dL_law_613 rfl rfl rfl ?_
      refine me_iconst (pc' := 615) (v := 0) dL_law_614 rfl kc_i0 ?_
      refine mm_guard (fun c14 => ?_)
      refine me_lald (pc' := 616) dL_law_615 rfl kd_358 (mm_ltQ kd_358) (mm_ibd_of c14) ?_
      refine me_iload (pc' := 618) (i := 7) dL_law_616 rfl rfl ?_
      refine me_i2l (pc' := 619) dL_law_618 rfl ?_
      refine me_lcmp (pc' := 620) dL_law_619 rfl ?_
      refine me_if_eq (pc' := 623) (tgt := 625) dL_law_620 (by decide) rfl (fun c15 => ?_) (fun c15 => ?_)
      · exact mm_maskB [true, true, true, true, true, true, false, false, false] (j12p ())
      · refine me_iconst (pc' := 624) (v := 0) dL_law_623 rfl kc_i0 ?_
        exact me_zret (b := false) dL_law_624 rfl (fun z => z) rfl
  · refine me_iconst (pc' := 607) (v := 0) dL_law_606 rfl kc_i0 ?_
    exact me_zret (b := false) dL_law_607 rfl (fun z => z) rfl
def gL_c628 (i : Int32) (j : mm_H → Option (Bool × mm_H)) (h : mm_H) : Option (Bool × mm_H) :=
(gL_findProduct h).bind (fun (x1 : (Int32 × mm_H)) =>
(gX11_findProduct x1.2).bind (fun (x3 : (Int32 × mm_H)) =>
(gX11_thrown x3.2).bind (fun (x5 : Int32) =>
if x5 = x1.1 then
mm_jn (fun (_ : Unit) =>
j x3.2) (fun (j8 : Unit → Option (Bool × mm_H)) =>
if x1.1 = 0 then
if mm_ibd 0 1 = true then
if (lg_cmp ((mh_J x3.2 358 (Int32.toNatClampNeg (0)))) ((x3.1).toInt64)) = 0 then
j8 ()
else
some (false, x3.2) else none
else
j8 ())
else
some (false, x3.2))))
theorem rL_c628 (i : Int32) (j : mm_H → Option (Bool × mm_H)) (jp : ∀ h, mm_E2 mm_SQ mm_SQ mL_law 3496 [some (.ref 360), some (.ref 0), some (.ref 352), some (.ref 358), some (.ref 359), some (.int i), none, none, none] [] h (j h) lf_ze) (h : mm_H) : mm_E2 mm_SQ mm_SQ mL_law 628 [some (.ref 360), some (.ref 0), some (.ref 352), some (.ref 358), some (.ref 359), some (.int i), none, none, none] [] h (gL_c628 i j h) lf_ze := by
  unfold gL_c628
  refine me_aload_n (pc' := 629) (i := 1) dL_law_628 rfl rfl rfl ?_
  refine me_aload_n (pc' := 630) (i := 3) dL_law_629 rfl rfl rfl ?_
  refine me_callSX (As := [.ref 0, .ref 358]) (st := []) (F' := mm_SQ) (G' := mm_SQ) (F'' := mm_SQ) (pc' := 633) dL_law_630 rfl mfL_findProduct rfl lx_217 ⟨Nat.le_of_ble_eq_true rfl, Nat.le_of_ble_eq_true rfl⟩ (Nat.le_of_ble_eq_true rfl) (fun z => z) (mm_RQ (fun t => rL_findProduct (q := (360, t)) h (Nat.le_of_ble_eq_true rfl))) (fun x1 e2 => Or.inl ⟨_, _, rfl, fun z => z, ?_⟩)
  show mm_E2 _ _ _ _ _ [.int x1.1] x1.2 _ _
  refine me_istore (pc' := 635) (i := 6) (L' := [some (.ref 360), some (.ref 0), some (.ref 352), some (.ref 358), some (.ref 359), some (.int i), some (.int x1.1), none, none]) dL_law_633 rfl (Nat.le_of_ble_eq_true rfl) (Nat.le_of_ble_eq_true rfl) rfl ?_
  refine me_aload_n (pc' := 636) (i := 2) dL_law_635 rfl rfl rfl ?_
  refine me_callV (As := []) (st := []) (F' := mm_SQ) (G' := mm_SQ) (F'' := mm_SQ) (pc' := 639) dL_law_636 rfl mfX11_findProduct rfl lkL_219 kd_352 rfl (mm_ltQ kd_352) ⟨Nat.le_of_ble_eq_true rfl, Nat.le_of_ble_eq_true rfl⟩ (Nat.le_of_ble_eq_true rfl) (fun z => z) (mm_RQ (fun t => rX11_findProduct (q := (360, t)) x1.2 (Nat.le_of_ble_eq_true rfl))) (fun x3 e4 => Or.inl ⟨_, _, rfl, fun z => z, ?_⟩)
  show mm_E2 _ _ _ _ _ [.int x3.1] x3.2 _ _
  refine me_istore (pc' := 641) (i := 7) (L' := [some (.ref 360), some (.ref 0), some (.ref 352), some (.ref 358), some (.ref 359), some (.int i), some (.int x1.1), some (.int x3.1), none]) dL_law_639 rfl (Nat.le_of_ble_eq_true rfl) (Nat.le_of_ble_eq_true rfl) rfl ?_
  refine me_aload_n (pc' := 642) (i := 2) dL_law_641 rfl rfl rfl ?_
  refine me_callV (As := []) (st := []) (F' := mm_SQ) (G' := mm_SQ) (F'' := mm_SQ) (pc' := 645) dL_law_642 rfl mfX11_thrown rfl lkL_186 kd_352 rfl (mm_ltQ kd_352) ⟨Nat.le_of_ble_eq_true rfl, Nat.le_of_ble_eq_true rfl⟩ (Nat.le_of_ble_eq_true rfl) (fun z => z) (mm_RQ (fun t => rX11_thrown (q := (360, t)) x3.2 (Nat.le_of_ble_eq_true rfl))) (fun x5 e6 => Or.inl ⟨_, _, rfl, fun z => z, ?_⟩)
  show mm_E2 _ _ _ _ _ [.int x5] x3.2 _ _
  refine me_iload (pc' := 647) (i := 6) dL_law_645 rfl rfl ?_
  refine me_icmp_eq (pc' := 650) (tgt := 652) dL_law_647 (by decide) rfl (fun c7 => ?_) (fun c7 => ?_)
  · refine me_iload (pc' := 654) (i := 6) dL_law_652 rfl rfl ?_
    refine mm_jnI (fun (j89 : Unit → Option (Bool × mm_H)) => ∀ (_ : Unit), mm_E2 mm_SQ mm_SQ mL_law 669 [some (.ref 360), some (.ref 0), some (.ref 352), some (.ref 358), some (.ref 359), some (.int i), none, none, none] [] x3.2 (j89 ()) lf_ze) ?_ (fun j8 j8p => ?_)
    · intro _
      refine me_goto (tgt := 3496) dL_law_669 (by decide) ?_
      exact jp x3.2
    refine me_if_ne (pc' := 657) (tgt := 669) dL_law_654 (by decide) rfl (fun c9 => ?_) (fun c9 => ?_)
    · exact mm_maskB [true, true, true, true, true, true, false, false, false] (j8p ())
    · refine me_aload_n (pc' := 658) (i := 3) dL_law_657 rfl rfl rfl ?_
      refine me_iconst (pc' := 659) (v := 0) dL_law_658 rfl kc_i0 ?_
      refine mm_guard (fun c10 => ?_)
      refine me_lald (pc' := 660) dL_law_659 rfl kd_358 (mm_ltQ kd_358) (mm_ibd_of c10) ?_
      refine me_iload (pc' := 662) (i := 7) dL_law_660 rfl rfl ?_
      refine me_i2l (pc' := 663) dL_law_662 rfl ?_
      refine me_lcmp (pc' := 664) dL_law_663 rfl ?_
      refine me_if_eq (pc' := 667) (tgt := 669) dL_law_664 (by decide) rfl (fun c11 => ?_) (fun c11 => ?_)
      · exact mm_maskB [true, true, true, true, true, true, false, false, false] (j8p ())
      · refine me_iconst (pc' := 668) (v := 0) dL_law_667 rfl kc_i0 ?_
        exact me_zret (b := false) dL_law_668 rfl (fun z => z) rfl
  · refine me_iconst (pc' := 651) (v := 0) dL_law_650 rfl kc_i0 ?_
    exact me_zret (b := false) dL_law_651 rfl (fun z => z) rfl
def gL_c672 (i : Int32) (j : mm_H → Option (Bool × mm_H)) (h : mm_H) : Option (Bool × mm_H) :=
if mm_isb ((i + 1)) (mh_I h 360 0) = true then
(gL_minimumStock ((mh_I h 360 (Int32.toNatClampNeg ((i + 1)) + 1))) h).bind (fun (x2 : (Int32 × mm_H)) =>
if mm_isb ((i + 1)) (mh_I x2.2 360 0) = true then
(gX11_minimumStock ((mh_I x2.2 360 (Int32.toNatClampNeg ((i + 1)) + 1))) x2.2).bind (fun (x5 : (Int32 × mm_H)) =>
(gX11_thrown x5.2).bind (fun (x7 : Int32) =>
if x7 = x2.1 then
mm_jn (fun (_ : Unit) =>
j x5.2) (fun (j10 : Unit → Option (Bool × mm_H)) =>
if x2.1 = 0 then
if mm_ibd 0 1 = true then
if (lg_cmp ((mh_J x5.2 358 (Int32.toNatClampNeg (0)))) ((x5.1).toInt64)) = 0 then
j10 ()
else
some (false, x5.2) else none
else
j10 ())
else
some (false, x5.2))) else none) else none
theorem rL_c672 (i : Int32) (j : mm_H → Option (Bool × mm_H)) (jp : ∀ h, mm_E2 mm_SQ mm_SQ mL_law 3496 [some (.ref 360), some (.ref 0), some (.ref 352), some (.ref 358), some (.ref 359), some (.int i), none, none, none] [] h (j h) lf_ze) (h : mm_H) : mm_E2 mm_SQ mm_SQ mL_law 672 [some (.ref 360), some (.ref 0), some (.ref 352), some (.ref 358), some (.ref 359), some (.int i), none, none, none] [] h (gL_c672 i j h) lf_ze := by
  unfold gL_c672
  refine me_aload_n (pc' := 673) (i := 1) dL_law_672 rfl rfl rfl ?_
  refine me_aload_n (pc' := 674) (i := 0) dL_law_673 rfl rfl rfl ?_
  refine me_iload (pc' := 676) (i := 5) dL_law_674 rfl rfl ?_
  refine me_iconst (pc' := 677) (v := 1) dL_law_676 rfl kc_i1 ?_
  refine me_iadd (pc' := 678) dL_law_677 rfl ?_
  refine mm_guard (fun c1 => ?_)
  refine me_scld (pc' := 679) dL_law_678 rfl c1 ?_
  refine me_aload_n (pc' := 680) (i := 3) dL_law_679 rfl rfl rfl ?_
  refine me_callSX (As := [.ref 0, .int (mh_I h 360 (Int32.toNatClampNeg ((i + 1)) + 1)), .ref 358]) (st := []) (F' := mm_SQ) (G' := mm_SQ) (F'' := mm_SQ) (pc' := 683) dL_law_680 rfl mfL_minimumStock rfl lx_220 ⟨Nat.le_of_ble_eq_true rfl, Nat.le_of_ble_eq_true rfl⟩ (Nat.le_of_ble_eq_true rfl) (fun z => z) (mm_RQ (fun t => rL_minimumStock (q := (360, t)) ((mh_I h 360 (Int32.toNatClampNeg ((i + 1)) + 1))) h (Nat.le_of_ble_eq_true rfl))) (fun x2 e3 => Or.inl ⟨_, _, rfl, fun z => z, ?_⟩)
  show mm_E2 _ _ _ _ _ [.int x2.1] x2.2 _ _
  refine me_istore (pc' := 685) (i := 6) (L' := [some (.ref 360), some (.ref 0), some (.ref 352), some (.ref 358), some (.ref 359), some (.int i), some (.int x2.1), none, none]) dL_law_683 rfl (Nat.le_of_ble_eq_true rfl) (Nat.le_of_ble_eq_true rfl) rfl ?_
  refine me_aload_n (pc' := 686) (i := 2) dL_law_685 rfl rfl rfl ?_
  refine me_aload_n (pc' := 687) (i := 0) dL_law_686 rfl rfl rfl ?_
  refine me_iload (pc' := 689) (i := 5) dL_law_687 rfl rfl ?_
  refine me_iconst (pc' := 690) (v := 1) dL_law_689 rfl kc_i1 ?_
  refine me_iadd (pc' := 691) dL_law_690 rfl ?_
  refine mm_guard (fun c4 => ?_)
  refine me_scld (pc' := 692) dL_law_691 rfl c4 ?_
  refine me_callV (As := [.int (mh_I x2.2 360 (Int32.toNatClampNeg ((i + 1)) + 1))]) (st := []) (F' := mm_SQ) (G' := mm_SQ) (F'' := mm_SQ) (pc' := 695) dL_law_692 rfl mfX11_minimumStock rfl lkL_222 kd_352 rfl (mm_ltQ kd_352) ⟨Nat.le_of_ble_eq_true rfl, Nat.le_of_ble_eq_true rfl⟩ (Nat.le_of_ble_eq_true rfl) (fun z => z) (mm_RQ (fun t => rX11_minimumStock (q := (360, t)) ((mh_I x2.2 360 (Int32.toNatClampNeg ((i + 1)) + 1))) x2.2 (Nat.le_of_ble_eq_true rfl))) (fun x5 e6 => Or.inl ⟨_, _, rfl, fun z => z, ?_⟩)
  show mm_E2 _ _ _ _ _ [.int x5.1] x5.2 _ _
  refine me_istore (pc' := 697) (i := 7) (L' := [some (.ref 360), some (.ref 0), some (.ref 352), some (.ref 358), some (.ref 359), some (.int i), some (.int x2.1), some (.int x5.1), none]) dL_law_695 rfl (Nat.le_of_ble_eq_true rfl) (Nat.le_of_ble_eq_true rfl) rfl ?_
  refine me_aload_n (pc' := 698) (i := 2) dL_law_697 rfl rfl rfl ?_
  refine me_callV (As := []) (st := []) (F' := mm_SQ) (G' := mm_SQ) (F'' := mm_SQ) (pc' := 701) dL_law_698 rfl mfX11_thrown rfl lkL_186 kd_352 rfl (mm_ltQ kd_352) ⟨Nat.le_of_ble_eq_true rfl, Nat.le_of_ble_eq_true rfl⟩ (Nat.le_of_ble_eq_true rfl) (fun z => z) (mm_RQ (fun t => rX11_thrown (q := (360, t)) x5.2 (Nat.le_of_ble_eq_true rfl))) (fun x7 e8 => Or.inl ⟨_, _, rfl, fun z => z, ?_⟩)
  show mm_E2 _ _ _ _ _ [.int x7] x5.2 _ _
  refine me_iload (pc' := 703) (i := 6) dL_law_701 rfl rfl ?_
  refine me_icmp_eq (pc' := 706) (tgt := 708) dL_law_703 (by decide) rfl (fun c9 => ?_) (fun c9 => ?_)
  · refine me_iload (pc' := 710) (i := 6) dL_law_708 rfl rfl ?_
    refine mm_jnI (fun (j109 : Unit → Option (Bool × mm_H)) => ∀ (_ : Unit), mm_E2 mm_SQ mm_SQ mL_law 725 [some (.ref 360), some (.ref 0), some (.ref 352), some (.ref 358), some (.ref 359), some (.int i), none, none, none] [] x5.2 (j109 ()) lf_ze) ?_ (fun j10 j10p => ?_)
    · intro _
      refine me_goto (tgt := 3496) dL_law_725 (by decide) ?_
      exact jp x5.2
    refine me_if_ne (pc' := 713) (tgt := 725) dL_law_710 (by decide) rfl (fun c11 => ?_) (fun c11 => ?_)
    · exact mm_maskB [true, true, true, true, true, true, false, false, false] (j10p ())
    · refine me_aload_n (pc' := 714) (i := 3) dL_law_713 rfl rfl rfl ?_
      refine me_iconst (pc' := 715) (v := 0) dL_law_714 rfl kc_i0 ?_
      refine mm_guard (fun c12 => ?_)
      refine me_lald (pc' := 716) dL_law_715 rfl kd_358 (mm_ltQ kd_358) (mm_ibd_of c12) ?_
      refine me_iload (pc' := 718) (i := 7) dL_law_716 rfl rfl ?_
      refine me_i2l (pc' := 719) dL_law_718 rfl ?_
      refine me_lcmp (pc' := 720) dL_law_719 rfl ?_
      refine me_if_eq (pc' := 723) (tgt := 725) dL_law_720 (by decide) rfl (fun c13 => ?_) (fun c13 => ?_)
      · exact mm_maskB [true, true, true, true, true, true, false, false, false] (j10p ())
      · refine me_iconst (pc' := 724) (v := 0) dL_law_723 rfl kc_i0 ?_
        exact me_zret (b := false) dL_law_724 rfl (fun z => z) rfl
  · refine me_iconst (pc' := 707) (v := 0) dL_law_706 rfl kc_i0 ?_
    exact me_zret (b := false) dL_law_707 rfl (fun z => z) rfl
def gL_c728 (i : Int32) (j : mm_H → Option (Bool × mm_H)) (h : mm_H) : Option (Bool × mm_H) :=
if mm_isb ((i + 1)) (mh_I h 360 0) = true then
(gL_onHand ((mh_I h 360 (Int32.toNatClampNeg ((i + 1)) + 1))) h).bind (fun (x2 : (Int32 × mm_H)) =>
if mm_isb ((i + 1)) (mh_I x2.2 360 0) = true then
(gX11_onHand ((mh_I x2.2 360 (Int32.toNatClampNeg ((i + 1)) + 1))) x2.2).bind (fun (x5 : (Int32 × mm_H)) =>
(gX11_thrown x5.2).bind (fun (x7 : Int32) =>
if x7 = x2.1 then
mm_jn (fun (_ : Unit) =>
j x5.2) (fun (j10 : Unit → Option (Bool × mm_H)) =>
if x2.1 = 0 then
if mm_ibd 0 1 = true then
if (lg_cmp ((mh_J x5.2 358 (Int32.toNatClampNeg (0)))) ((x5.1).toInt64)) = 0 then
j10 ()
else
some (false, x5.2) else none
else
j10 ())
else
some (false, x5.2))) else none) else none
theorem rL_c728 (i : Int32) (j : mm_H → Option (Bool × mm_H)) (jp : ∀ h, mm_E2 mm_SQ mm_SQ mL_law 3496 [some (.ref 360), some (.ref 0), some (.ref 352), some (.ref 358), some (.ref 359), some (.int i), none, none, none] [] h (j h) lf_ze) (h : mm_H) : mm_E2 mm_SQ mm_SQ mL_law 728 [some (.ref 360), some (.ref 0), some (.ref 352), some (.ref 358), some (.ref 359), some (.int i), none, none, none] [] h (gL_c728 i j h) lf_ze := by
  unfold gL_c728
  refine me_aload_n (pc' := 729) (i := 1) dL_law_728 rfl rfl rfl ?_
  refine me_aload_n (pc' := 730) (i := 0) dL_law_729 rfl rfl rfl ?_
  refine me_iload (pc' := 732) (i := 5) dL_law_730 rfl rfl ?_
  refine me_iconst (pc' := 733) (v := 1) dL_law_732 rfl kc_i1 ?_
  refine me_iadd (pc' := 734) dL_law_733 rfl ?_
  refine mm_guard (fun c1 => ?_)
  refine me_scld (pc' := 735) dL_law_734 rfl c1 ?_
  refine me_aload_n (pc' := 736) (i := 3) dL_law_735 rfl rfl rfl ?_
  refine me_callSX (As := [.ref 0, .int (mh_I h 360 (Int32.toNatClampNeg ((i + 1)) + 1)), .ref 358]) (st := []) (F' := mm_SQ) (G' := mm_SQ) (F'' := mm_SQ) (pc' := 739) dL_law_736 rfl mfL_onHand rfl lx_223 ⟨Nat.le_of_ble_eq_true rfl, Nat.le_of_ble_eq_true rfl⟩ (Nat.le_of_ble_eq_true rfl) (fun z => z) (mm_RQ (fun t => rL_onHand (q := (360, t)) ((mh_I h 360 (Int32.toNatClampNeg ((i + 1)) + 1))) h (Nat.le_of_ble_eq_true rfl))) (fun x2 e3 => Or.inl ⟨_, _, rfl, fun z => z, ?_⟩)
  show mm_E2 _ _ _ _ _ [.int x2.1] x2.2 _ _
  refine me_istore (pc' := 741) (i := 6) (L' := [some (.ref 360), some (.ref 0), some (.ref 352), some (.ref 358), some (.ref 359), some (.int i), some (.int x2.1), none, none]) dL_law_739 rfl (Nat.le_of_ble_eq_true rfl) (Nat.le_of_ble_eq_true rfl) rfl ?_
  refine me_aload_n (pc' := 742) (i := 2) dL_law_741 rfl rfl rfl ?_
  refine me_aload_n (pc' := 743) (i := 0) dL_law_742 rfl rfl rfl ?_
  refine me_iload (pc' := 745) (i := 5) dL_law_743 rfl rfl ?_
  refine me_iconst (pc' := 746) (v := 1) dL_law_745 rfl kc_i1 ?_
  refine me_iadd (pc' := 747) dL_law_746 rfl ?_
  refine mm_guard (fun c4 => ?_)
  refine me_scld (pc' := 748) dL_law_747 rfl c4 ?_
  refine me_callV (As := [.int (mh_I x2.2 360 (Int32.toNatClampNeg ((i + 1)) + 1))]) (st := []) (F' := mm_SQ) (G' := mm_SQ) (F'' := mm_SQ) (pc' := 751) dL_law_748 rfl mfX11_onHand rfl lkL_225 kd_352 rfl (mm_ltQ kd_352) ⟨Nat.le_of_ble_eq_true rfl, Nat.le_of_ble_eq_true rfl⟩ (Nat.le_of_ble_eq_true rfl) (fun z => z) (mm_RQ (fun t => rX11_onHand (q := (360, t)) ((mh_I x2.2 360 (Int32.toNatClampNeg ((i + 1)) + 1))) x2.2 (Nat.le_of_ble_eq_true rfl))) (fun x5 e6 => Or.inl ⟨_, _, rfl, fun z => z, ?_⟩)
  show mm_E2 _ _ _ _ _ [.int x5.1] x5.2 _ _
  refine me_istore (pc' := 753) (i := 7) (L' := [some (.ref 360), some (.ref 0), some (.ref 352), some (.ref 358), some (.ref 359), some (.int i), some (.int x2.1), some (.int x5.1), none]) dL_law_751 rfl (Nat.le_of_ble_eq_true rfl) (Nat.le_of_ble_eq_true rfl) rfl ?_
  refine me_aload_n (pc' := 754) (i := 2) dL_law_753 rfl rfl rfl ?_
  refine me_callV (As := []) (st := []) (F' := mm_SQ) (G' := mm_SQ) (F'' := mm_SQ) (pc' := 757) dL_law_754 rfl mfX11_thrown rfl lkL_186 kd_352 rfl (mm_ltQ kd_352) ⟨Nat.le_of_ble_eq_true rfl, Nat.le_of_ble_eq_true rfl⟩ (Nat.le_of_ble_eq_true rfl) (fun z => z) (mm_RQ (fun t => rX11_thrown (q := (360, t)) x5.2 (Nat.le_of_ble_eq_true rfl))) (fun x7 e8 => Or.inl ⟨_, _, rfl, fun z => z, ?_⟩)
  show mm_E2 _ _ _ _ _ [.int x7] x5.2 _ _
  refine me_iload (pc' := 759) (i := 6) dL_law_757 rfl rfl ?_
  refine me_icmp_eq (pc' := 762) (tgt := 764) dL_law_759 (by decide) rfl (fun c9 => ?_) (fun c9 => ?_)
  · refine me_iload (pc' := 766) (i := 6) dL_law_764 rfl rfl ?_
    refine mm_jnI (fun (j109 : Unit → Option (Bool × mm_H)) => ∀ (_ : Unit), mm_E2 mm_SQ mm_SQ mL_law 781 [some (.ref 360), some (.ref 0), some (.ref 352), some (.ref 358), some (.ref 359), some (.int i), none, none, none] [] x5.2 (j109 ()) lf_ze) ?_ (fun j10 j10p => ?_)
    · intro _
      refine me_goto (tgt := 3496) dL_law_781 (by decide) ?_
      exact jp x5.2
    refine me_if_ne (pc' := 769) (tgt := 781) dL_law_766 (by decide) rfl (fun c11 => ?_) (fun c11 => ?_)
    · exact mm_maskB [true, true, true, true, true, true, false, false, false] (j10p ())
    · refine me_aload_n (pc' := 770) (i := 3) dL_law_769 rfl rfl rfl ?_
      refine me_iconst (pc' := 771) (v := 0) dL_law_770 rfl kc_i0 ?_
      refine mm_guard (fun c12 => ?_)
      refine me_lald (pc' := 772) dL_law_771 rfl kd_358 (mm_ltQ kd_358) (mm_ibd_of c12) ?_
      refine me_iload (pc' := 774) (i := 7) dL_law_772 rfl rfl ?_
      refine me_i2l (pc' := 775) dL_law_774 rfl ?_
      refine me_lcmp (pc' := 776) dL_law_775 rfl ?_
      refine me_if_eq (pc' := 779) (tgt := 781) dL_law_776 (by decide) rfl (fun c13 => ?_) (fun c13 => ?_)
      · exact mm_maskB [true, true, true, true, true, true, false, false, false] (j10p ())
      · refine me_iconst (pc' := 780) (v := 0) dL_law_779 rfl kc_i0 ?_
        exact me_zret (b := false) dL_law_780 rfl (fun z => z) rfl
  · refine me_iconst (pc' := 763) (v := 0) dL_law_762 rfl kc_i0 ?_
    exact me_zret (b := false) dL_law_763 rfl (fun z => z) rfl
def gL_c784 (i : Int32) (j : mm_H → Option (Bool × mm_H)) (h : mm_H) : Option (Bool × mm_H) :=
if mm_isb ((i + 1)) (mh_I h 360 0) = true then
(gL_reserved ((mh_I h 360 (Int32.toNatClampNeg ((i + 1)) + 1))) h).bind (fun (x2 : (Int32 × mm_H)) =>
if mm_isb ((i + 1)) (mh_I x2.2 360 0) = true then
(gX11_reserved ((mh_I x2.2 360 (Int32.toNatClampNeg ((i + 1)) + 1))) x2.2).bind (fun (x5 : (Int32 × mm_H)) =>
(gX11_thrown x5.2).bind (fun (x7 : Int32) =>
if x7 = x2.1 then
mm_jn (fun (_ : Unit) =>
j x5.2) (fun (j10 : Unit → Option (Bool × mm_H)) =>
if x2.1 = 0 then
if mm_ibd 0 1 = true then
if (lg_cmp ((mh_J x5.2 358 (Int32.toNatClampNeg (0)))) ((x5.1).toInt64)) = 0 then
j10 ()
else
some (false, x5.2) else none
else
j10 ())
else
some (false, x5.2))) else none) else none
theorem rL_c784 (i : Int32) (j : mm_H → Option (Bool × mm_H)) (jp : ∀ h, mm_E2 mm_SQ mm_SQ mL_law 3496 [some (.ref 360), some (.ref 0), some (.ref 352), some (.ref 358), some (.ref 359), some (.int i), none, none, none] [] h (j h) lf_ze) (h : mm_H) : mm_E2 mm_SQ mm_SQ mL_law 784 [some (.ref 360), some (.ref 0), some (.ref 352), some (.ref 358), some (.ref 359), some (.int i), none, none, none] [] h (gL_c784 i j h) lf_ze := by
  unfold gL_c784
  refine me_aload_n (pc' := 785) (i := 1) dL_law_784 rfl rfl rfl ?_
  refine me_aload_n (pc' := 786) (i := 0) dL_law_785 rfl rfl rfl ?_
  refine me_iload (pc' := 788) (i := 5) dL_law_786 rfl rfl ?_
  refine me_iconst (pc' := 789) (v := 1) dL_law_788 rfl kc_i1 ?_
  refine me_iadd (pc' := 790) dL_law_789 rfl ?_
  refine mm_guard (fun c1 => ?_)
  refine me_scld (pc' := 791) dL_law_790 rfl c1 ?_
  refine me_aload_n (pc' := 792) (i := 3) dL_law_791 rfl rfl rfl ?_
  refine me_callSX (As := [.ref 0, .int (mh_I h 360 (Int32.toNatClampNeg ((i + 1)) + 1)), .ref 358]) (st := []) (F' := mm_SQ) (G' := mm_SQ) (F'' := mm_SQ) (pc' := 795) dL_law_792 rfl mfL_reserved rfl lx_226 ⟨Nat.le_of_ble_eq_true rfl, Nat.le_of_ble_eq_true rfl⟩ (Nat.le_of_ble_eq_true rfl) (fun z => z) (mm_RQ (fun t => rL_reserved (q := (360, t)) ((mh_I h 360 (Int32.toNatClampNeg ((i + 1)) + 1))) h (Nat.le_of_ble_eq_true rfl))) (fun x2 e3 => Or.inl ⟨_, _, rfl, fun z => z, ?_⟩)
  show mm_E2 _ _ _ _ _ [.int x2.1] x2.2 _ _
  refine me_istore (pc' := 797) (i := 6) (L' := [some (.ref 360), some (.ref 0), some (.ref 352), some (.ref 358), some (.ref 359), some (.int i), some (.int x2.1), none, none]) dL_law_795 rfl (Nat.le_of_ble_eq_true rfl) (Nat.le_of_ble_eq_true rfl) rfl ?_
  refine me_aload_n (pc' := 798) (i := 2) dL_law_797 rfl rfl rfl ?_
  refine me_aload_n (pc' := 799) (i := 0) dL_law_798 rfl rfl rfl ?_
  refine me_iload (pc' := 801) (i := 5) dL_law_799 rfl rfl ?_
  refine me_iconst (pc' := 802) (v := 1) dL_law_801 rfl kc_i1 ?_
  refine me_iadd (pc' := 803) dL_law_802 rfl ?_
  refine mm_guard (fun c4 => ?_)
  refine me_scld (pc' := 804) dL_law_803 rfl c4 ?_
  refine me_callV (As := [.int (mh_I x2.2 360 (Int32.toNatClampNeg ((i + 1)) + 1))]) (st := []) (F' := mm_SQ) (G' := mm_SQ) (F'' := mm_SQ) (pc' := 807) dL_law_804 rfl mfX11_reserved rfl lkL_228 kd_352 rfl (mm_ltQ kd_352) ⟨Nat.le_of_ble_eq_true rfl, Nat.le_of_ble_eq_true rfl⟩ (Nat.le_of_ble_eq_true rfl) (fun z => z) (mm_RQ (fun t => rX11_reserved (q := (360, t)) ((mh_I x2.2 360 (Int32.toNatClampNeg ((i + 1)) + 1))) x2.2 (Nat.le_of_ble_eq_true rfl))) (fun x5 e6 => Or.inl ⟨_, _, rfl, fun z => z, ?_⟩)
  show mm_E2 _ _ _ _ _ [.int x5.1] x5.2 _ _
  refine me_istore (pc' := 809) (i := 7) (L' := [some (.ref 360), some (.ref 0), some (.ref 352), some (.ref 358), some (.ref 359), some (.int i), some (.int x2.1), some (.int x5.1), none]) dL_law_807 rfl (Nat.le_of_ble_eq_true rfl) (Nat.le_of_ble_eq_true rfl) rfl ?_
  refine me_aload_n (pc' := 810) (i := 2) dL_law_809 rfl rfl rfl ?_
  refine me_callV (As := []) (st := []) (F' := mm_SQ) (G' := mm_SQ) (F'' := mm_SQ) (pc' := 813) dL_law_810 rfl mfX11_thrown rfl lkL_186 kd_352 rfl (mm_ltQ kd_352) ⟨Nat.le_of_ble_eq_true rfl, Nat.le_of_ble_eq_true rfl⟩ (Nat.le_of_ble_eq_true rfl) (fun z => z) (mm_RQ (fun t => rX11_thrown (q := (360, t)) x5.2 (Nat.le_of_ble_eq_true rfl))) (fun x7 e8 => Or.inl ⟨_, _, rfl, fun z => z, ?_⟩)
  show mm_E2 _ _ _ _ _ [.int x7] x5.2 _ _
  refine me_iload (pc' := 815) (i := 6) dL_law_813 rfl rfl ?_
  refine me_icmp_eq (pc' := 818) (tgt := 820) dL_law_815 (by decide) rfl (fun c9 => ?_) (fun c9 => ?_)
  · refine me_iload (pc' := 822) (i := 6) dL_law_820 rfl rfl ?_
    refine mm_jnI (fun (j109 : Unit → Option (Bool × mm_H)) => ∀ (_ : Unit), mm_E2 mm_SQ mm_SQ mL_law 837 [some (.ref 360), some (.ref 0), some (.ref 352), some (.ref 358), some (.ref 359), some (.int i), none, none, none] [] x5.2 (j109 ()) lf_ze) ?_ (fun j10 j10p => ?_)
    · intro _
      refine me_goto (tgt := 3496) dL_law_837 (by decide) ?_
      exact jp x5.2
    refine me_if_ne (pc' := 825) (tgt := 837) dL_law_822 (by decide) rfl (fun c11 => ?_) (fun c11 => ?_)
    · exact mm_maskB [true, true, true, true, true, true, false, false, false] (j10p ())
    · refine me_aload_n (pc' := 826) (i := 3) dL_law_825 rfl rfl rfl ?_
      refine me_iconst (pc' := 827) (v := 0) dL_law_826 rfl kc_i0 ?_
      refine mm_guard (fun c12 => ?_)
      refine me_lald (pc' := 828) dL_law_827 rfl kd_358 (mm_ltQ kd_358) (mm_ibd_of c12) ?_
      refine me_iload (pc' := 830) (i := 7) dL_law_828 rfl rfl ?_
      refine me_i2l (pc' := 831) dL_law_830 rfl ?_
      refine me_lcmp (pc' := 832) dL_law_831 rfl ?_
      refine me_if_eq (pc' := 835) (tgt := 837) dL_law_832 (by decide) rfl (fun c13 => ?_) (fun c13 => ?_)
      · exact mm_maskB [true, true, true, true, true, true, false, false, false] (j10p ())
      · refine me_iconst (pc' := 836) (v := 0) dL_law_835 rfl kc_i0 ?_
        exact me_zret (b := false) dL_law_836 rfl (fun z => z) rfl
  · refine me_iconst (pc' := 819) (v := 0) dL_law_818 rfl kc_i0 ?_
    exact me_zret (b := false) dL_law_819 rfl (fun z => z) rfl
def gL_c840 (i : Int32) (j : mm_H → Option (Bool × mm_H)) (h : mm_H) : Option (Bool × mm_H) :=
if mm_isb ((i + 1)) (mh_I h 360 0) = true then
if mm_isb ((i + 2)) (mh_I h 360 0) = true then
(gL_availableOn ((mh_I h 360 (Int32.toNatClampNeg ((i + 1)) + 1))) ((mh_I h 360 (Int32.toNatClampNeg ((i + 2)) + 1))) h).bind (fun (x3 : (Int32 × mm_H)) =>
if mm_isb ((i + 1)) (mh_I x3.2 360 0) = true then
if mm_isb ((i + 2)) (mh_I x3.2 360 0) = true then
(gX11_availableOn ((mh_I x3.2 360 (Int32.toNatClampNeg ((i + 1)) + 1))) ((mh_I x3.2 360 (Int32.toNatClampNeg ((i + 2)) + 1))) x3.2).bind (fun (x7 : (Int32 × mm_H)) =>
(gX11_thrown x7.2).bind (fun (x9 : Int32) =>
if x9 = x3.1 then
mm_jn (fun (_ : Unit) =>
j x7.2) (fun (j12 : Unit → Option (Bool × mm_H)) =>
if x3.1 = 0 then
if mm_ibd 0 1 = true then
if (lg_cmp ((mh_J x7.2 358 (Int32.toNatClampNeg (0)))) ((x7.1).toInt64)) = 0 then
j12 ()
else
some (false, x7.2) else none
else
j12 ())
else
some (false, x7.2))) else none else none) else none else none
theorem rL_c840 (i : Int32) (j : mm_H → Option (Bool × mm_H)) (jp : ∀ h, mm_E2 mm_SQ mm_SQ mL_law 3496 [some (.ref 360), some (.ref 0), some (.ref 352), some (.ref 358), some (.ref 359), some (.int i), none, none, none] [] h (j h) lf_ze) (h : mm_H) : mm_E2 mm_SQ mm_SQ mL_law 840 [some (.ref 360), some (.ref 0), some (.ref 352), some (.ref 358), some (.ref 359), some (.int i), none, none, none] [] h (gL_c840 i j h) lf_ze := by
  unfold gL_c840
  refine me_aload_n (pc' := 841) (i := 1) dL_law_840 rfl rfl rfl ?_
  refine me_aload_n (pc' := 842) (i := 0) dL_law_841 rfl rfl rfl ?_
  refine me_iload (pc' := 844) (i := 5) dL_law_842 rfl rfl ?_
  refine me_iconst (pc' := 845) (v := 1) dL_law_844 rfl kc_i1 ?_
  refine me_iadd (pc' := 846) dL_law_845 rfl ?_
  refine mm_guard (fun c1 => ?_)
  refine me_scld (pc' := 847) dL_law_846 rfl c1 ?_
  refine me_aload_n (pc' := 848) (i := 0) dL_law_847 rfl rfl rfl ?_
  refine me_iload (pc' := 850) (i := 5) dL_law_848 rfl rfl ?_
  refine me_iconst (pc' := 851) (v := 2) dL_law_850 rfl kc_i2 ?_
  refine me_iadd (pc' := 852) dL_law_851 rfl ?_
  refine mm_guard (fun c2 => ?_)
  refine me_scld (pc' := 853) dL_law_852 rfl c2 ?_
  refine me_aload_n (pc' := 854) (i := 3) dL_law_853 rfl rfl rfl ?_
  refine me_callSX (As := [.ref 0, .int (mh_I h 360 (Int32.toNatClampNeg ((i + 1)) + 1)), .int (mh_I h 360 (Int32.toNatClampNeg ((i + 2)) + 1)), .ref 358]) (st := []) (F' := mm_SQ) (G' := mm_SQ) (F'' := mm_SQ) (pc' := 857) dL_law_854 rfl mfL_availableOn rfl lx_229 ⟨Nat.le_of_ble_eq_true rfl, Nat.le_of_ble_eq_true rfl⟩ (Nat.le_of_ble_eq_true rfl) (fun z => z) (mm_RQ (fun t => rL_availableOn (q := (360, t)) ((mh_I h 360 (Int32.toNatClampNeg ((i + 1)) + 1))) ((mh_I h 360 (Int32.toNatClampNeg ((i + 2)) + 1))) h (Nat.le_of_ble_eq_true rfl))) (fun x3 e4 => Or.inl ⟨_, _, rfl, fun z => z, ?_⟩)
  show mm_E2 _ _ _ _ _ [.int x3.1] x3.2 _ _
  refine me_istore (pc' := 859) (i := 6) (L' := [some (.ref 360), some (.ref 0), some (.ref 352), some (.ref 358), some (.ref 359), some (.int i), some (.int x3.1), none, none]) dL_law_857 rfl (Nat.le_of_ble_eq_true rfl) (Nat.le_of_ble_eq_true rfl) rfl ?_
  refine me_aload_n (pc' := 860) (i := 2) dL_law_859 rfl rfl rfl ?_
  refine me_aload_n (pc' := 861) (i := 0) dL_law_860 rfl rfl rfl ?_
  refine me_iload (pc' := 863) (i := 5) dL_law_861 rfl rfl ?_
  refine me_iconst (pc' := 864) (v := 1) dL_law_863 rfl kc_i1 ?_
  refine me_iadd (pc' := 865) dL_law_864 rfl ?_
  refine mm_guard (fun c5 => ?_)
  refine me_scld (pc' := 866) dL_law_865 rfl c5 ?_
  refine me_aload_n (pc' := 867) (i := 0) dL_law_866 rfl rfl rfl ?_
  refine me_iload (pc' := 869) (i := 5) dL_law_867 rfl rfl ?_
  refine me_iconst (pc' := 870) (v := 2) dL_law_869 rfl kc_i2 ?_
  refine me_iadd (pc' := 871) dL_law_870 rfl ?_
  refine mm_guard (fun c6 => ?_)
  refine me_scld (pc' := 872) dL_law_871 rfl c6 ?_
  refine me_callV (As := [.int (mh_I x3.2 360 (Int32.toNatClampNeg ((i + 1)) + 1)), .int (mh_I x3.2 360 (Int32.toNatClampNeg ((i + 2)) + 1))]) (st := []) (F' := mm_SQ) (G' := mm_SQ) (F'' := mm_SQ) (pc' := 875) dL_law_872 rfl mfX11_availableOn rfl lkL_231 kd_352 rfl (mm_ltQ kd_352) ⟨Nat.le_of_ble_eq_true rfl, Nat.le_of_ble_eq_true rfl⟩ (Nat.le_of_ble_eq_true rfl) (fun z => z) (mm_RQ (fun t => rX11_availableOn (q := (360, t)) ((mh_I x3.2 360 (Int32.toNatClampNeg ((i + 1)) + 1))) ((mh_I x3.2 360 (Int32.toNatClampNeg ((i + 2)) + 1))) x3.2 (Nat.le_of_ble_eq_true rfl))) (fun x7 e8 => Or.inl ⟨_, _, rfl, fun z => z, ?_⟩)
  show mm_E2 _ _ _ _ _ [.int x7.1] x7.2 _ _
  refine me_istore (pc' := 877) (i := 7) (L' := [some (.ref 360), some (.ref 0), some (.ref 352), some (.ref 358), some (.ref 359), some (.int i), some (.int x3.1), some (.int x7.1), none]) dL_law_875 rfl (Nat.le_of_ble_eq_true rfl) (Nat.le_of_ble_eq_true rfl) rfl ?_
  refine me_aload_n (pc' := 878) (i := 2) dL_law_877 rfl rfl rfl ?_
  refine me_callV (As := []) (st := []) (F' := mm_SQ) (G' := mm_SQ) (F'' := mm_SQ) (pc' := 881) dL_law_878 rfl mfX11_thrown rfl lkL_186 kd_352 rfl (mm_ltQ kd_352) ⟨Nat.le_of_ble_eq_true rfl, Nat.le_of_ble_eq_true rfl⟩ (Nat.le_of_ble_eq_true rfl) (fun z => z) (mm_RQ (fun t => rX11_thrown (q := (360, t)) x7.2 (Nat.le_of_ble_eq_true rfl))) (fun x9 e10 => Or.inl ⟨_, _, rfl, fun z => z, ?_⟩)
  show mm_E2 _ _ _ _ _ [.int x9] x7.2 _ _
  refine me_iload (pc' := 883) (i := 6) dL_law_881 rfl rfl ?_
  refine me_icmp_eq (pc' := 886) (tgt := 888) dL_law_883 (by decide) rfl (fun c11 => ?_) (fun c11 => ?_)
  · refine me_iload (pc' := 890) (i := 6) dL_law_888 rfl rfl ?_
    refine mm_jnI (fun (j129 : Unit → Option (Bool × mm_H)) => ∀ (_ : Unit), mm_E2 mm_SQ mm_SQ mL_law 905 [some (.ref 360), some (.ref 0), some (.ref 352), some (.ref 358), some (.ref 359), some (.int i), none, none, none] [] x7.2 (j129 ()) lf_ze) ?_ (fun j12 j12p => ?_)
    · intro _
      refine me_goto (tgt := 3496) dL_law_905 (by decide) ?_
      exact jp x7.2
    refine me_if_ne (pc' := 893) (tgt := 905) dL_law_890 (by decide) rfl (fun c13 => ?_) (fun c13 => ?_)
    · exact mm_maskB [true, true, true, true, true, true, false, false, false] (j12p ())
    · refine me_aload_n (pc' := 894) (i := 3) dL_law_893 rfl rfl rfl ?_
      refine me_iconst (pc' := 895) (v := 0) dL_law_894 rfl kc_i0 ?_
      refine mm_guard (fun c14 => ?_)
      refine me_lald (pc' := 896) dL_law_895 rfl kd_358 (mm_ltQ kd_358) (mm_ibd_of c14) ?_
      refine me_iload (pc' := 898) (i := 7) dL_law_896 rfl rfl ?_
      refine me_i2l (pc' := 899) dL_law_898 rfl ?_
      refine me_lcmp (pc' := 900) dL_law_899 rfl ?_
      refine me_if_eq (pc' := 903) (tgt := 905) dL_law_900 (by decide) rfl (fun c15 => ?_) (fun c15 => ?_)
      · exact mm_maskB [true, true, true, true, true, true, false, false, false] (j12p ())
      · refine me_iconst (pc' := 904) (v := 0) dL_law_903 rfl kc_i0 ?_
        exact me_zret (b := false) dL_law_904 rfl (fun z => z) rfl
  · refine me_iconst (pc' := 887) (v := 0) dL_law_886 rfl kc_i0 ?_
    exact me_zret (b := false) dL_law_887 rfl (fun z => z) rfl
def gL_c908 (i : Int32) (j : mm_H → Option (Bool × mm_H)) (h : mm_H) : Option (Bool × mm_H) :=
if mm_isb ((i + 1)) (mh_I h 360 0) = true then
(gL_expired ((mh_I h 360 (Int32.toNatClampNeg ((i + 1)) + 1))) h).bind (fun (x2 : (Int32 × mm_H)) =>
if mm_isb ((i + 1)) (mh_I x2.2 360 0) = true then
(gX11_expired ((mh_I x2.2 360 (Int32.toNatClampNeg ((i + 1)) + 1))) x2.2).bind (fun (x5 : (Int32 × mm_H)) =>
(gX11_thrown x5.2).bind (fun (x7 : Int32) =>
if x7 = x2.1 then
mm_jn (fun (_ : Unit) =>
j x5.2) (fun (j10 : Unit → Option (Bool × mm_H)) =>
if x2.1 = 0 then
if mm_ibd 0 1 = true then
if (lg_cmp ((mh_J x5.2 358 (Int32.toNatClampNeg (0)))) ((x5.1).toInt64)) = 0 then
j10 ()
else
some (false, x5.2) else none
else
j10 ())
else
some (false, x5.2))) else none) else none
theorem rL_c908 (i : Int32) (j : mm_H → Option (Bool × mm_H)) (jp : ∀ h, mm_E2 mm_SQ mm_SQ mL_law 3496 [some (.ref 360), some (.ref 0), some (.ref 352), some (.ref 358), some (.ref 359), some (.int i), none, none, none] [] h (j h) lf_ze) (h : mm_H) : mm_E2 mm_SQ mm_SQ mL_law 908 [some (.ref 360), some (.ref 0), some (.ref 352), some (.ref 358), some (.ref 359), some (.int i), none, none, none] [] h (gL_c908 i j h) lf_ze := by
  unfold gL_c908
  refine me_aload_n (pc' := 909) (i := 1) dL_law_908 rfl rfl rfl ?_
  refine me_aload_n (pc' := 910) (i := 0) dL_law_909 rfl rfl rfl ?_
  refine me_iload (pc' := 912) (i := 5) dL_law_910 rfl rfl ?_
  refine me_iconst (pc' := 913) (v := 1) dL_law_912 rfl kc_i1 ?_
  refine me_iadd (pc' := 914) dL_law_913 rfl ?_
  refine mm_guard (fun c1 => ?_)
  refine me_scld (pc' := 915) dL_law_914 rfl c1 ?_
  refine me_aload_n (pc' := 916) (i := 3) dL_law_915 rfl rfl rfl ?_
  refine me_callSX (As := [.ref 0, .int (mh_I h 360 (Int32.toNatClampNeg ((i + 1)) + 1)), .ref 358]) (st := []) (F' := mm_SQ) (G' := mm_SQ) (F'' := mm_SQ) (pc' := 919) dL_law_916 rfl mfL_expired rfl lx_232 ⟨Nat.le_of_ble_eq_true rfl, Nat.le_of_ble_eq_true rfl⟩ (Nat.le_of_ble_eq_true rfl) (fun z => z) (mm_RQ (fun t => rL_expired (q := (360, t)) ((mh_I h 360 (Int32.toNatClampNeg ((i + 1)) + 1))) h (Nat.le_of_ble_eq_true rfl))) (fun x2 e3 => Or.inl ⟨_, _, rfl, fun z => z, ?_⟩)
  show mm_E2 _ _ _ _ _ [.int x2.1] x2.2 _ _
  refine me_istore (pc' := 921) (i := 6) (L' := [some (.ref 360), some (.ref 0), some (.ref 352), some (.ref 358), some (.ref 359), some (.int i), some (.int x2.1), none, none]) dL_law_919 rfl (Nat.le_of_ble_eq_true rfl) (Nat.le_of_ble_eq_true rfl) rfl ?_
  refine me_aload_n (pc' := 922) (i := 2) dL_law_921 rfl rfl rfl ?_
  refine me_aload_n (pc' := 923) (i := 0) dL_law_922 rfl rfl rfl ?_
  refine me_iload (pc' := 925) (i := 5) dL_law_923 rfl rfl ?_
  refine me_iconst (pc' := 926) (v := 1) dL_law_925 rfl kc_i1 ?_
  refine me_iadd (pc' := 927) dL_law_926 rfl ?_
  refine mm_guard (fun c4 => ?_)
  refine me_scld (pc' := 928) dL_law_927 rfl c4 ?_
  refine me_callV (As := [.int (mh_I x2.2 360 (Int32.toNatClampNeg ((i + 1)) + 1))]) (st := []) (F' := mm_SQ) (G' := mm_SQ) (F'' := mm_SQ) (pc' := 931) dL_law_928 rfl mfX11_expired rfl lkL_234 kd_352 rfl (mm_ltQ kd_352) ⟨Nat.le_of_ble_eq_true rfl, Nat.le_of_ble_eq_true rfl⟩ (Nat.le_of_ble_eq_true rfl) (fun z => z) (mm_RQ (fun t => rX11_expired (q := (360, t)) ((mh_I x2.2 360 (Int32.toNatClampNeg ((i + 1)) + 1))) x2.2 (Nat.le_of_ble_eq_true rfl))) (fun x5 e6 => Or.inl ⟨_, _, rfl, fun z => z, ?_⟩)
  show mm_E2 _ _ _ _ _ [.int x5.1] x5.2 _ _
  refine me_istore (pc' := 933) (i := 7) (L' := [some (.ref 360), some (.ref 0), some (.ref 352), some (.ref 358), some (.ref 359), some (.int i), some (.int x2.1), some (.int x5.1), none]) dL_law_931 rfl (Nat.le_of_ble_eq_true rfl) (Nat.le_of_ble_eq_true rfl) rfl ?_
  refine me_aload_n (pc' := 934) (i := 2) dL_law_933 rfl rfl rfl ?_
  refine me_callV (As := []) (st := []) (F' := mm_SQ) (G' := mm_SQ) (F'' := mm_SQ) (pc' := 937) dL_law_934 rfl mfX11_thrown rfl lkL_186 kd_352 rfl (mm_ltQ kd_352) ⟨Nat.le_of_ble_eq_true rfl, Nat.le_of_ble_eq_true rfl⟩ (Nat.le_of_ble_eq_true rfl) (fun z => z) (mm_RQ (fun t => rX11_thrown (q := (360, t)) x5.2 (Nat.le_of_ble_eq_true rfl))) (fun x7 e8 => Or.inl ⟨_, _, rfl, fun z => z, ?_⟩)
  show mm_E2 _ _ _ _ _ [.int x7] x5.2 _ _
  refine me_iload (pc' := 939) (i := 6) dL_law_937 rfl rfl ?_
  refine me_icmp_eq (pc' := 942) (tgt := 944) dL_law_939 (by decide) rfl (fun c9 => ?_) (fun c9 => ?_)
  · refine me_iload (pc' := 946) (i := 6) dL_law_944 rfl rfl ?_
    refine mm_jnI (fun (j109 : Unit → Option (Bool × mm_H)) => ∀ (_ : Unit), mm_E2 mm_SQ mm_SQ mL_law 961 [some (.ref 360), some (.ref 0), some (.ref 352), some (.ref 358), some (.ref 359), some (.int i), none, none, none] [] x5.2 (j109 ()) lf_ze) ?_ (fun j10 j10p => ?_)
    · intro _
      refine me_goto (tgt := 3496) dL_law_961 (by decide) ?_
      exact jp x5.2
    refine me_if_ne (pc' := 949) (tgt := 961) dL_law_946 (by decide) rfl (fun c11 => ?_) (fun c11 => ?_)
    · exact mm_maskB [true, true, true, true, true, true, false, false, false] (j10p ())
    · refine me_aload_n (pc' := 950) (i := 3) dL_law_949 rfl rfl rfl ?_
      refine me_iconst (pc' := 951) (v := 0) dL_law_950 rfl kc_i0 ?_
      refine mm_guard (fun c12 => ?_)
      refine me_lald (pc' := 952) dL_law_951 rfl kd_358 (mm_ltQ kd_358) (mm_ibd_of c12) ?_
      refine me_iload (pc' := 954) (i := 7) dL_law_952 rfl rfl ?_
      refine me_i2l (pc' := 955) dL_law_954 rfl ?_
      refine me_lcmp (pc' := 956) dL_law_955 rfl ?_
      refine me_if_eq (pc' := 959) (tgt := 961) dL_law_956 (by decide) rfl (fun c13 => ?_) (fun c13 => ?_)
      · exact mm_maskB [true, true, true, true, true, true, false, false, false] (j10p ())
      · refine me_iconst (pc' := 960) (v := 0) dL_law_959 rfl kc_i0 ?_
        exact me_zret (b := false) dL_law_960 rfl (fun z => z) rfl
  · refine me_iconst (pc' := 943) (v := 0) dL_law_942 rfl kc_i0 ?_
    exact me_zret (b := false) dL_law_943 rfl (fun z => z) rfl
def gL_c964 (i : Int32) (j : mm_H → Option (Bool × mm_H)) (h : mm_H) : Option (Bool × mm_H) :=
if mm_isb ((i + 1)) (mh_I h 360 0) = true then
if mm_isb ((i + 2)) (mh_I h 360 0) = true then
(gL_expiringWithin ((mh_I h 360 (Int32.toNatClampNeg ((i + 1)) + 1))) ((mh_I h 360 (Int32.toNatClampNeg ((i + 2)) + 1))) h).bind (fun (x3 : (Int32 × mm_H)) =>
if mm_isb ((i + 1)) (mh_I x3.2 360 0) = true then
if mm_isb ((i + 2)) (mh_I x3.2 360 0) = true then
(gX11_expiringWithin ((mh_I x3.2 360 (Int32.toNatClampNeg ((i + 1)) + 1))) ((mh_I x3.2 360 (Int32.toNatClampNeg ((i + 2)) + 1))) x3.2).bind (fun (x7 : (Int32 × mm_H)) =>
(gX11_thrown x7.2).bind (fun (x9 : Int32) =>
if x9 = x3.1 then
mm_jn (fun (_ : Unit) =>
j x7.2) (fun (j12 : Unit → Option (Bool × mm_H)) =>
if x3.1 = 0 then
if mm_ibd 0 1 = true then
if (lg_cmp ((mh_J x7.2 358 (Int32.toNatClampNeg (0)))) ((x7.1).toInt64)) = 0 then
j12 ()
else
some (false, x7.2) else none
else
j12 ())
else
some (false, x7.2))) else none else none) else none else none
theorem rL_c964 (i : Int32) (j : mm_H → Option (Bool × mm_H)) (jp : ∀ h, mm_E2 mm_SQ mm_SQ mL_law 3496 [some (.ref 360), some (.ref 0), some (.ref 352), some (.ref 358), some (.ref 359), some (.int i), none, none, none] [] h (j h) lf_ze) (h : mm_H) : mm_E2 mm_SQ mm_SQ mL_law 964 [some (.ref 360), some (.ref 0), some (.ref 352), some (.ref 358), some (.ref 359), some (.int i), none, none, none] [] h (gL_c964 i j h) lf_ze := by
  unfold gL_c964
  refine me_aload_n (pc' := 965) (i := 1) dL_law_964 rfl rfl rfl ?_
  refine me_aload_n (pc' := 966) (i := 0) dL_law_965 rfl rfl rfl ?_
  refine me_iload (pc' := 968) (i := 5) dL_law_966 rfl rfl ?_
  refine me_iconst (pc' := 969) (v := 1) dL_law_968 rfl kc_i1 ?_
  refine me_iadd (pc' := 970) dL_law_969 rfl ?_
  refine mm_guard (fun c1 => ?_)
  refine me_scld (pc' := 971) dL_law_970 rfl c1 ?_
  refine me_aload_n (pc' := 972) (i := 0) dL_law_971 rfl rfl rfl ?_
  refine me_iload (pc' := 974) (i := 5) dL_law_972 rfl rfl ?_
  refine me_iconst (pc' := 975) (v := 2) dL_law_974 rfl kc_i2 ?_
  refine me_iadd (pc' := 976) dL_law_975 rfl ?_
  refine mm_guard (fun c2 => ?_)
  refine me_scld (pc' := 977) dL_law_976 rfl c2 ?_
  refine me_aload_n (pc' := 978) (i := 3) dL_law_977 rfl rfl rfl ?_
  refine me_callSX (As := [.ref 0, .int (mh_I h 360 (Int32.toNatClampNeg ((i + 1)) + 1)), .int (mh_I h 360 (Int32.toNatClampNeg ((i + 2)) + 1)), .ref 358]) (st := []) (F' := mm_SQ) (G' := mm_SQ) (F'' := mm_SQ) (pc' := 981) dL_law_978 rfl mfL_expiringWithin rfl lx_235 ⟨Nat.le_of_ble_eq_true rfl, Nat.le_of_ble_eq_true rfl⟩ (Nat.le_of_ble_eq_true rfl) (fun z => z) (mm_RQ (fun t => rL_expiringWithin (q := (360, t)) ((mh_I h 360 (Int32.toNatClampNeg ((i + 1)) + 1))) ((mh_I h 360 (Int32.toNatClampNeg ((i + 2)) + 1))) h (Nat.le_of_ble_eq_true rfl))) (fun x3 e4 => Or.inl ⟨_, _, rfl, fun z => z, ?_⟩)
  show mm_E2 _ _ _ _ _ [.int x3.1] x3.2 _ _
  refine me_istore (pc' := 983) (i := 6) (L' := [some (.ref 360), some (.ref 0), some (.ref 352), some (.ref 358), some (.ref 359), some (.int i), some (.int x3.1), none, none]) dL_law_981 rfl (Nat.le_of_ble_eq_true rfl) (Nat.le_of_ble_eq_true rfl) rfl ?_
  refine me_aload_n (pc' := 984) (i := 2) dL_law_983 rfl rfl rfl ?_
  refine me_aload_n (pc' := 985) (i := 0) dL_law_984 rfl rfl rfl ?_
  refine me_iload (pc' := 987) (i := 5) dL_law_985 rfl rfl ?_
  refine me_iconst (pc' := 988) (v := 1) dL_law_987 rfl kc_i1 ?_
  refine me_iadd (pc' := 989) dL_law_988 rfl ?_
  refine mm_guard (fun c5 => ?_)
  refine me_scld (pc' := 990) dL_law_989 rfl c5 ?_
  refine me_aload_n (pc' := 991) (i := 0) dL_law_990 rfl rfl rfl ?_
  refine me_iload (pc' := 993) (i := 5) dL_law_991 rfl rfl ?_
  refine me_iconst (pc' := 994) (v := 2) dL_law_993 rfl kc_i2 ?_
  refine me_iadd (pc' := 995) dL_law_994 rfl ?_
  refine mm_guard (fun c6 => ?_)
  refine me_scld (pc' := 996) dL_law_995 rfl c6 ?_
  refine me_callV (As := [.int (mh_I x3.2 360 (Int32.toNatClampNeg ((i + 1)) + 1)), .int (mh_I x3.2 360 (Int32.toNatClampNeg ((i + 2)) + 1))]) (st := []) (F' := mm_SQ) (G' := mm_SQ) (F'' := mm_SQ) (pc' := 999) dL_law_996 rfl mfX11_expiringWithin rfl lkL_237 kd_352 rfl (mm_ltQ kd_352) ⟨Nat.le_of_ble_eq_true rfl, Nat.le_of_ble_eq_true rfl⟩ (Nat.le_of_ble_eq_true rfl) (fun z => z) (mm_RQ (fun t => rX11_expiringWithin (q := (360, t)) ((mh_I x3.2 360 (Int32.toNatClampNeg ((i + 1)) + 1))) ((mh_I x3.2 360 (Int32.toNatClampNeg ((i + 2)) + 1))) x3.2 (Nat.le_of_ble_eq_true rfl))) (fun x7 e8 => Or.inl ⟨_, _, rfl, fun z => z, ?_⟩)
  show mm_E2 _ _ _ _ _ [.int x7.1] x7.2 _ _
  refine me_istore (pc' := 1001) (i := 7) (L' := [some (.ref 360), some (.ref 0), some (.ref 352), some (.ref 358), some (.ref 359), some (.int i), some (.int x3.1), some (.int x7.1), none]) dL_law_999 rfl (Nat.le_of_ble_eq_true rfl) (Nat.le_of_ble_eq_true rfl) rfl ?_
  refine me_aload_n (pc' := 1002) (i := 2) dL_law_1001 rfl rfl rfl ?_
  refine me_callV (As := []) (st := []) (F' := mm_SQ) (G' := mm_SQ) (F'' := mm_SQ) (pc' := 1005) dL_law_1002 rfl mfX11_thrown rfl lkL_186 kd_352 rfl (mm_ltQ kd_352) ⟨Nat.le_of_ble_eq_true rfl, Nat.le_of_ble_eq_true rfl⟩ (Nat.le_of_ble_eq_true rfl) (fun z => z) (mm_RQ (fun t => rX11_thrown (q := (360, t)) x7.2 (Nat.le_of_ble_eq_true rfl))) (fun x9 e10 => Or.inl ⟨_, _, rfl, fun z => z, ?_⟩)
  show mm_E2 _ _ _ _ _ [.int x9] x7.2 _ _
  refine me_iload (pc' := 1007) (i := 6) dL_law_1005 rfl rfl ?_
  refine me_icmp_eq (pc' := 1010) (tgt := 1012) dL_law_1007 (by decide) rfl (fun c11 => ?_) (fun c11 => ?_)
  · refine me_iload (pc' := 1014) (i := 6) dL_law_1012 rfl rfl ?_
    refine mm_jnI (fun (j129 : Unit → Option (Bool × mm_H)) => ∀ (_ : Unit), mm_E2 mm_SQ mm_SQ mL_law 1029 [some (.ref 360), some (.ref 0), some (.ref 352), some (.ref 358), some (.ref 359), some (.int i), none, none, none] [] x7.2 (j129 ()) lf_ze) ?_ (fun j12 j12p => ?_)
    · intro _
      refine me_goto (tgt := 3496) dL_law_1029 (by decide) ?_
      exact jp x7.2
    refine me_if_ne (pc' := 1017) (tgt := 1029) dL_law_1014 (by decide) rfl (fun c13 => ?_) (fun c13 => ?_)
    · exact mm_maskB [true, true, true, true, true, true, false, false, false] (j12p ())
    · refine me_aload_n (pc' := 1018) (i := 3) dL_law_1017 rfl rfl rfl ?_
      refine me_iconst (pc' := 1019) (v := 0) dL_law_1018 rfl kc_i0 ?_
      refine mm_guard (fun c14 => ?_)
      refine me_lald (pc' := 1020) dL_law_1019 rfl kd_358 (mm_ltQ kd_358) (mm_ibd_of c14) ?_
      refine me_iload (pc' := 1022) (i := 7) dL_law_1020 rfl rfl ?_
      refine me_i2l (pc' := 1023) dL_law_1022 rfl ?_
      refine me_lcmp (pc' := 1024) dL_law_1023 rfl ?_
      refine me_if_eq (pc' := 1027) (tgt := 1029) dL_law_1024 (by decide) rfl (fun c15 => ?_) (fun c15 => ?_)
      · exact mm_maskB [true, true, true, true, true, true, false, false, false] (j12p ())
      · refine me_iconst (pc' := 1028) (v := 0) dL_law_1027 rfl kc_i0 ?_
        exact me_zret (b := false) dL_law_1028 rfl (fun z => z) rfl
  · refine me_iconst (pc' := 1011) (v := 0) dL_law_1010 rfl kc_i0 ?_
    exact me_zret (b := false) dL_law_1011 rfl (fun z => z) rfl
def gL_c1032 (i : Int32) (j : mm_H → Option (Bool × mm_H)) (h : mm_H) : Option (Bool × mm_H) :=
if mm_isb ((i + 1)) (mh_I h 360 0) = true then
(gL_stockValue ((mh_I h 360 (Int32.toNatClampNeg ((i + 1)) + 1))) h).bind (fun (x2 : (Int32 × mm_H)) =>
if mm_isb ((i + 1)) (mh_I x2.2 360 0) = true then
(gX11_stockValue ((mh_I x2.2 360 (Int32.toNatClampNeg ((i + 1)) + 1))) x2.2).bind (fun (x5 : (Int32 × mm_H)) =>
(gX11_thrown x5.2).bind (fun (x7 : Int32) =>
if x7 = x2.1 then
mm_jn (fun (_ : Unit) =>
j x5.2) (fun (j10 : Unit → Option (Bool × mm_H)) =>
if x2.1 = 0 then
if mm_ibd 0 1 = true then
if (lg_cmp ((mh_J x5.2 358 (Int32.toNatClampNeg (0)))) ((x5.1).toInt64)) = 0 then
j10 ()
else
some (false, x5.2) else none
else
j10 ())
else
some (false, x5.2))) else none) else none
theorem rL_c1032 (i : Int32) (j : mm_H → Option (Bool × mm_H)) (jp : ∀ h, mm_E2 mm_SQ mm_SQ mL_law 3496 [some (.ref 360), some (.ref 0), some (.ref 352), some (.ref 358), some (.ref 359), some (.int i), none, none, none] [] h (j h) lf_ze) (h : mm_H) : mm_E2 mm_SQ mm_SQ mL_law 1032 [some (.ref 360), some (.ref 0), some (.ref 352), some (.ref 358), some (.ref 359), some (.int i), none, none, none] [] h (gL_c1032 i j h) lf_ze := by
  unfold gL_c1032
  refine me_aload_n (pc' := 1033) (i := 1) dL_law_1032 rfl rfl rfl ?_
  refine me_aload_n (pc' := 1034) (i := 0) dL_law_1033 rfl rfl rfl ?_
  refine me_iload (pc' := 1036) (i := 5) dL_law_1034 rfl rfl ?_
  refine me_iconst (pc' := 1037) (v := 1) dL_law_1036 rfl kc_i1 ?_
  refine me_iadd (pc' := 1038) dL_law_1037 rfl ?_
  refine mm_guard (fun c1 => ?_)
  refine me_scld (pc' := 1039) dL_law_1038 rfl c1 ?_
  refine me_aload_n (pc' := 1040) (i := 3) dL_law_1039 rfl rfl rfl ?_
  refine me_callSX (As := [.ref 0, .int (mh_I h 360 (Int32.toNatClampNeg ((i + 1)) + 1)), .ref 358]) (st := []) (F' := mm_SQ) (G' := mm_SQ) (F'' := mm_SQ) (pc' := 1043) dL_law_1040 rfl mfL_stockValue rfl lx_238 ⟨Nat.le_of_ble_eq_true rfl, Nat.le_of_ble_eq_true rfl⟩ (Nat.le_of_ble_eq_true rfl) (fun z => z) (mm_RQ (fun t => rL_stockValue (q := (360, t)) ((mh_I h 360 (Int32.toNatClampNeg ((i + 1)) + 1))) h (Nat.le_of_ble_eq_true rfl))) (fun x2 e3 => Or.inl ⟨_, _, rfl, fun z => z, ?_⟩)
  show mm_E2 _ _ _ _ _ [.int x2.1] x2.2 _ _
  refine me_istore (pc' := 1045) (i := 6) (L' := [some (.ref 360), some (.ref 0), some (.ref 352), some (.ref 358), some (.ref 359), some (.int i), some (.int x2.1), none, none]) dL_law_1043 rfl (Nat.le_of_ble_eq_true rfl) (Nat.le_of_ble_eq_true rfl) rfl ?_
  refine me_aload_n (pc' := 1046) (i := 2) dL_law_1045 rfl rfl rfl ?_
  refine me_aload_n (pc' := 1047) (i := 0) dL_law_1046 rfl rfl rfl ?_
  refine me_iload (pc' := 1049) (i := 5) dL_law_1047 rfl rfl ?_
  refine me_iconst (pc' := 1050) (v := 1) dL_law_1049 rfl kc_i1 ?_
  refine me_iadd (pc' := 1051) dL_law_1050 rfl ?_
  refine mm_guard (fun c4 => ?_)
  refine me_scld (pc' := 1052) dL_law_1051 rfl c4 ?_
  refine me_callV (As := [.int (mh_I x2.2 360 (Int32.toNatClampNeg ((i + 1)) + 1))]) (st := []) (F' := mm_SQ) (G' := mm_SQ) (F'' := mm_SQ) (pc' := 1055) dL_law_1052 rfl mfX11_stockValue rfl lkL_240 kd_352 rfl (mm_ltQ kd_352) ⟨Nat.le_of_ble_eq_true rfl, Nat.le_of_ble_eq_true rfl⟩ (Nat.le_of_ble_eq_true rfl) (fun z => z) (mm_RQ (fun t => rX11_stockValue (q := (360, t)) ((mh_I x2.2 360 (Int32.toNatClampNeg ((i + 1)) + 1))) x2.2 (Nat.le_of_ble_eq_true rfl))) (fun x5 e6 => Or.inl ⟨_, _, rfl, fun z => z, ?_⟩)
  show mm_E2 _ _ _ _ _ [.int x5.1] x5.2 _ _
  refine me_istore (pc' := 1057) (i := 7) (L' := [some (.ref 360), some (.ref 0), some (.ref 352), some (.ref 358), some (.ref 359), some (.int i), some (.int x2.1), some (.int x5.1), none]) dL_law_1055 rfl (Nat.le_of_ble_eq_true rfl) (Nat.le_of_ble_eq_true rfl) rfl ?_
  refine me_aload_n (pc' := 1058) (i := 2) dL_law_1057 rfl rfl rfl ?_
  refine me_callV (As := []) (st := []) (F' := mm_SQ) (G' := mm_SQ) (F'' := mm_SQ) (pc' := 1061) dL_law_1058 rfl mfX11_thrown rfl lkL_186 kd_352 rfl (mm_ltQ kd_352) ⟨Nat.le_of_ble_eq_true rfl, Nat.le_of_ble_eq_true rfl⟩ (Nat.le_of_ble_eq_true rfl) (fun z => z) (mm_RQ (fun t => rX11_thrown (q := (360, t)) x5.2 (Nat.le_of_ble_eq_true rfl))) (fun x7 e8 => Or.inl ⟨_, _, rfl, fun z => z, ?_⟩)
  show mm_E2 _ _ _ _ _ [.int x7] x5.2 _ _
  refine me_iload (pc' := 1063) (i := 6) dL_law_1061 rfl rfl ?_
  refine me_icmp_eq (pc' := 1066) (tgt := 1068) dL_law_1063 (by decide) rfl (fun c9 => ?_) (fun c9 => ?_)
  · refine me_iload (pc' := 1070) (i := 6) dL_law_1068 rfl rfl ?_
    refine mm_jnI (fun (j109 : Unit → Option (Bool × mm_H)) => ∀ (_ : Unit), mm_E2 mm_SQ mm_SQ mL_law 1085 [some (.ref 360), some (.ref 0), some (.ref 352), some (.ref 358), some (.ref 359), some (.int i), none, none, none] [] x5.2 (j109 ()) lf_ze) ?_ (fun j10 j10p => ?_)
    · intro _
      refine me_goto (tgt := 3496) dL_law_1085 (by decide) ?_
      exact jp x5.2
    refine me_if_ne (pc' := 1073) (tgt := 1085) dL_law_1070 (by decide) rfl (fun c11 => ?_) (fun c11 => ?_)
    · exact mm_maskB [true, true, true, true, true, true, false, false, false] (j10p ())
    · refine me_aload_n (pc' := 1074) (i := 3) dL_law_1073 rfl rfl rfl ?_
      refine me_iconst (pc' := 1075) (v := 0) dL_law_1074 rfl kc_i0 ?_
      refine mm_guard (fun c12 => ?_)
      refine me_lald (pc' := 1076) dL_law_1075 rfl kd_358 (mm_ltQ kd_358) (mm_ibd_of c12) ?_
      refine me_iload (pc' := 1078) (i := 7) dL_law_1076 rfl rfl ?_
      refine me_i2l (pc' := 1079) dL_law_1078 rfl ?_
      refine me_lcmp (pc' := 1080) dL_law_1079 rfl ?_
      refine me_if_eq (pc' := 1083) (tgt := 1085) dL_law_1080 (by decide) rfl (fun c13 => ?_) (fun c13 => ?_)
      · exact mm_maskB [true, true, true, true, true, true, false, false, false] (j10p ())
      · refine me_iconst (pc' := 1084) (v := 0) dL_law_1083 rfl kc_i0 ?_
        exact me_zret (b := false) dL_law_1084 rfl (fun z => z) rfl
  · refine me_iconst (pc' := 1067) (v := 0) dL_law_1066 rfl kc_i0 ?_
    exact me_zret (b := false) dL_law_1067 rfl (fun z => z) rfl
def gL_c1088 (i : Int32) (j : mm_H → Option (Bool × mm_H)) (h : mm_H) : Option (Bool × mm_H) :=
(gX10_totalValue h).bind (fun (x1 : Int32) =>
(gX11_totalValue h).bind (fun (x3 : (Int32 × mm_H)) =>
if x1 = x3.1 then
j x3.2
else
some (false, x3.2)))
theorem rL_c1088 (i : Int32) (j : mm_H → Option (Bool × mm_H)) (jp : ∀ h, mm_E2 mm_SQ mm_SQ mL_law 3496 [some (.ref 360), some (.ref 0), some (.ref 352), some (.ref 358), some (.ref 359), some (.int i), none, none, none] [] h (j h) lf_ze) (h : mm_H) : mm_E2 mm_SQ mm_SQ mL_law 1088 [some (.ref 360), some (.ref 0), some (.ref 352), some (.ref 358), some (.ref 359), some (.int i), none, none, none] [] h (gL_c1088 i j h) lf_ze := by
  unfold gL_c1088
  refine me_aload_n (pc' := 1089) (i := 1) dL_law_1088 rfl rfl rfl ?_
  refine me_callV (As := []) (st := []) (F' := mm_SQ) (G' := mm_SQ) (F'' := mm_SQ) (pc' := 1092) dL_law_1089 rfl mfX10_totalValue rfl lkL_241 kd_0 rfl (mm_ltQ kd_0) ⟨Nat.le_of_ble_eq_true rfl, Nat.le_of_ble_eq_true rfl⟩ (Nat.le_of_ble_eq_true rfl) (fun z => z) (mm_RQ (fun t => rX10_totalValue (q := (360, t)) h )) (fun x1 e2 => Or.inl ⟨_, _, rfl, fun z => z, ?_⟩)
  show mm_E2 _ _ _ _ _ [.int x1] h _ _
  refine me_aload_n (pc' := 1093) (i := 2) dL_law_1092 rfl rfl rfl ?_
  refine me_callV (As := []) (st := [.int x1]) (F' := mm_SQ) (G' := mm_SQ) (F'' := mm_SQ) (pc' := 1096) dL_law_1093 rfl mfX11_totalValue rfl lkL_244 kd_352 rfl (mm_ltQ kd_352) ⟨Nat.le_of_ble_eq_true rfl, Nat.le_of_ble_eq_true rfl⟩ (Nat.le_of_ble_eq_true rfl) (fun z => z) (mm_RQ (fun t => rX11_totalValue (q := (360, t)) h (Nat.le_of_ble_eq_true rfl))) (fun x3 e4 => Or.inl ⟨_, _, rfl, fun z => z, ?_⟩)
  show mm_E2 _ _ _ _ _ [.int x3.1, .int x1] x3.2 _ _
  refine me_icmp_eq (pc' := 1099) (tgt := 3496) dL_law_1096 (by decide) rfl (fun c5 => ?_) (fun c5 => ?_)
  · exact jp x3.2
  · refine me_iconst (pc' := 1100) (v := 0) dL_law_1099 rfl kc_i0 ?_
    exact me_zret (b := false) dL_law_1100 rfl (fun z => z) rfl
def gL_c1101 (i : Int32) (j : mm_H → Option (Bool × mm_H)) (h : mm_H) : Option (Bool × mm_H) :=
if mm_isb ((i + 1)) (mh_I h 360 0) = true then
(gL_reorderQuantity ((mh_I h 360 (Int32.toNatClampNeg ((i + 1)) + 1))) h).bind (fun (x2 : (Int32 × mm_H)) =>
if mm_isb ((i + 1)) (mh_I x2.2 360 0) = true then
(gX11_reorderQuantity ((mh_I x2.2 360 (Int32.toNatClampNeg ((i + 1)) + 1))) x2.2).bind (fun (x5 : (Int32 × mm_H)) =>
(gX11_thrown x5.2).bind (fun (x7 : Int32) =>
if x7 = x2.1 then
mm_jn (fun (_ : Unit) =>
j x5.2) (fun (j10 : Unit → Option (Bool × mm_H)) =>
if x2.1 = 0 then
if mm_ibd 0 1 = true then
if (lg_cmp ((mh_J x5.2 358 (Int32.toNatClampNeg (0)))) ((x5.1).toInt64)) = 0 then
j10 ()
else
some (false, x5.2) else none
else
j10 ())
else
some (false, x5.2))) else none) else none
theorem rL_c1101 (i : Int32) (j : mm_H → Option (Bool × mm_H)) (jp : ∀ h, mm_E2 mm_SQ mm_SQ mL_law 3496 [some (.ref 360), some (.ref 0), some (.ref 352), some (.ref 358), some (.ref 359), some (.int i), none, none, none] [] h (j h) lf_ze) (h : mm_H) : mm_E2 mm_SQ mm_SQ mL_law 1101 [some (.ref 360), some (.ref 0), some (.ref 352), some (.ref 358), some (.ref 359), some (.int i), none, none, none] [] h (gL_c1101 i j h) lf_ze := by
  unfold gL_c1101
  refine me_aload_n (pc' := 1102) (i := 1) dL_law_1101 rfl rfl rfl ?_
  refine me_aload_n (pc' := 1103) (i := 0) dL_law_1102 rfl rfl rfl ?_
  refine me_iload (pc' := 1105) (i := 5) dL_law_1103 rfl rfl ?_
  refine me_iconst (pc' := 1106) (v := 1) dL_law_1105 rfl kc_i1 ?_
  refine me_iadd (pc' := 1107) dL_law_1106 rfl ?_
  refine mm_guard (fun c1 => ?_)
  refine me_scld (pc' := 1108) dL_law_1107 rfl c1 ?_
  refine me_aload_n (pc' := 1109) (i := 3) dL_law_1108 rfl rfl rfl ?_
  refine me_callSX (As := [.ref 0, .int (mh_I h 360 (Int32.toNatClampNeg ((i + 1)) + 1)), .ref 358]) (st := []) (F' := mm_SQ) (G' := mm_SQ) (F'' := mm_SQ) (pc' := 1112) dL_law_1109 rfl mfL_reorderQuantity rfl lx_245 ⟨Nat.le_of_ble_eq_true rfl, Nat.le_of_ble_eq_true rfl⟩ (Nat.le_of_ble_eq_true rfl) (fun z => z) (mm_RQ (fun t => rL_reorderQuantity (q := (360, t)) ((mh_I h 360 (Int32.toNatClampNeg ((i + 1)) + 1))) h (Nat.le_of_ble_eq_true rfl))) (fun x2 e3 => Or.inl ⟨_, _, rfl, fun z => z, ?_⟩)
  show mm_E2 _ _ _ _ _ [.int x2.1] x2.2 _ _
  refine me_istore (pc' := 1114) (i := 6) (L' := [some (.ref 360), some (.ref 0), some (.ref 352), some (.ref 358), some (.ref 359), some (.int i), some (.int x2.1), none, none]) dL_law_1112 rfl (Nat.le_of_ble_eq_true rfl) (Nat.le_of_ble_eq_true rfl) rfl ?_
  refine me_aload_n (pc' := 1115) (i := 2) dL_law_1114 rfl rfl rfl ?_
  refine me_aload_n (pc' := 1116) (i := 0) dL_law_1115 rfl rfl rfl ?_
  refine me_iload (pc' := 1118) (i := 5) dL_law_1116 rfl rfl ?_
  refine me_iconst (pc' := 1119) (v := 1) dL_law_1118 rfl kc_i1 ?_
  refine me_iadd (pc' := 1120) dL_law_1119 rfl ?_
  refine mm_guard (fun c4 => ?_)
  refine me_scld (pc' := 1121) dL_law_1120 rfl c4 ?_
  refine me_callV (As := [.int (mh_I x2.2 360 (Int32.toNatClampNeg ((i + 1)) + 1))]) (st := []) (F' := mm_SQ) (G' := mm_SQ) (F'' := mm_SQ) (pc' := 1124) dL_law_1121 rfl mfX11_reorderQuantity rfl lkL_247 kd_352 rfl (mm_ltQ kd_352) ⟨Nat.le_of_ble_eq_true rfl, Nat.le_of_ble_eq_true rfl⟩ (Nat.le_of_ble_eq_true rfl) (fun z => z) (mm_RQ (fun t => rX11_reorderQuantity (q := (360, t)) ((mh_I x2.2 360 (Int32.toNatClampNeg ((i + 1)) + 1))) x2.2 (Nat.le_of_ble_eq_true rfl))) (fun x5 e6 => Or.inl ⟨_, _, rfl, fun z => z, ?_⟩)
  show mm_E2 _ _ _ _ _ [.int x5.1] x5.2 _ _
  refine me_istore (pc' := 1126) (i := 7) (L' := [some (.ref 360), some (.ref 0), some (.ref 352), some (.ref 358), some (.ref 359), some (.int i), some (.int x2.1), some (.int x5.1), none]) dL_law_1124 rfl (Nat.le_of_ble_eq_true rfl) (Nat.le_of_ble_eq_true rfl) rfl ?_
  refine me_aload_n (pc' := 1127) (i := 2) dL_law_1126 rfl rfl rfl ?_
  refine me_callV (As := []) (st := []) (F' := mm_SQ) (G' := mm_SQ) (F'' := mm_SQ) (pc' := 1130) dL_law_1127 rfl mfX11_thrown rfl lkL_186 kd_352 rfl (mm_ltQ kd_352) ⟨Nat.le_of_ble_eq_true rfl, Nat.le_of_ble_eq_true rfl⟩ (Nat.le_of_ble_eq_true rfl) (fun z => z) (mm_RQ (fun t => rX11_thrown (q := (360, t)) x5.2 (Nat.le_of_ble_eq_true rfl))) (fun x7 e8 => Or.inl ⟨_, _, rfl, fun z => z, ?_⟩)
  show mm_E2 _ _ _ _ _ [.int x7] x5.2 _ _
  refine me_iload (pc' := 1132) (i := 6) dL_law_1130 rfl rfl ?_
  refine me_icmp_eq (pc' := 1135) (tgt := 1137) dL_law_1132 (by decide) rfl (fun c9 => ?_) (fun c9 => ?_)
  · refine me_iload (pc' := 1139) (i := 6) dL_law_1137 rfl rfl ?_
    refine mm_jnI (fun (j109 : Unit → Option (Bool × mm_H)) => ∀ (_ : Unit), mm_E2 mm_SQ mm_SQ mL_law 1154 [some (.ref 360), some (.ref 0), some (.ref 352), some (.ref 358), some (.ref 359), some (.int i), none, none, none] [] x5.2 (j109 ()) lf_ze) ?_ (fun j10 j10p => ?_)
    · intro _
      refine me_goto (tgt := 3496) dL_law_1154 (by decide) ?_
      exact jp x5.2
    refine me_if_ne (pc' := 1142) (tgt := 1154) dL_law_1139 (by decide) rfl (fun c11 => ?_) (fun c11 => ?_)
    · exact mm_maskB [true, true, true, true, true, true, false, false, false] (j10p ())
    · refine me_aload_n (pc' := 1143) (i := 3) dL_law_1142 rfl rfl rfl ?_
      refine me_iconst (pc' := 1144) (v := 0) dL_law_1143 rfl kc_i0 ?_
      refine mm_guard (fun c12 => ?_)
      refine me_lald (pc' := 1145) dL_law_1144 rfl kd_358 (mm_ltQ kd_358) (mm_ibd_of c12) ?_
      refine me_iload (pc' := 1147) (i := 7) dL_law_1145 rfl rfl ?_
      refine me_i2l (pc' := 1148) dL_law_1147 rfl ?_
      refine me_lcmp (pc' := 1149) dL_law_1148 rfl ?_
      refine me_if_eq (pc' := 1152) (tgt := 1154) dL_law_1149 (by decide) rfl (fun c13 => ?_) (fun c13 => ?_)
      · exact mm_maskB [true, true, true, true, true, true, false, false, false] (j10p ())
      · refine me_iconst (pc' := 1153) (v := 0) dL_law_1152 rfl kc_i0 ?_
        exact me_zret (b := false) dL_law_1153 rfl (fun z => z) rfl
  · refine me_iconst (pc' := 1136) (v := 0) dL_law_1135 rfl kc_i0 ?_
    exact me_zret (b := false) dL_law_1136 rfl (fun z => z) rfl
def gL_c1157 (i : Int32) (j : mm_H → Option (Bool × mm_H)) (h : mm_H) : Option (Bool × mm_H) :=
(gX10_reorderCount h).bind (fun (x1 : Int32) =>
(gX11_reorderCount h).bind (fun (x3 : (Int32 × mm_H)) =>
if x1 = x3.1 then
j x3.2
else
some (false, x3.2)))
theorem rL_c1157 (i : Int32) (j : mm_H → Option (Bool × mm_H)) (jp : ∀ h, mm_E2 mm_SQ mm_SQ mL_law 3496 [some (.ref 360), some (.ref 0), some (.ref 352), some (.ref 358), some (.ref 359), some (.int i), none, none, none] [] h (j h) lf_ze) (h : mm_H) : mm_E2 mm_SQ mm_SQ mL_law 1157 [some (.ref 360), some (.ref 0), some (.ref 352), some (.ref 358), some (.ref 359), some (.int i), none, none, none] [] h (gL_c1157 i j h) lf_ze := by
  unfold gL_c1157
  refine me_aload_n (pc' := 1158) (i := 1) dL_law_1157 rfl rfl rfl ?_
  refine me_callV (As := []) (st := []) (F' := mm_SQ) (G' := mm_SQ) (F'' := mm_SQ) (pc' := 1161) dL_law_1158 rfl mfX10_reorderCount rfl lkL_248 kd_0 rfl (mm_ltQ kd_0) ⟨Nat.le_of_ble_eq_true rfl, Nat.le_of_ble_eq_true rfl⟩ (Nat.le_of_ble_eq_true rfl) (fun z => z) (mm_RQ (fun t => rX10_reorderCount (q := (360, t)) h )) (fun x1 e2 => Or.inl ⟨_, _, rfl, fun z => z, ?_⟩)
  show mm_E2 _ _ _ _ _ [.int x1] h _ _
  refine me_aload_n (pc' := 1162) (i := 2) dL_law_1161 rfl rfl rfl ?_
  refine me_callV (As := []) (st := [.int x1]) (F' := mm_SQ) (G' := mm_SQ) (F'' := mm_SQ) (pc' := 1165) dL_law_1162 rfl mfX11_reorderCount rfl lkL_251 kd_352 rfl (mm_ltQ kd_352) ⟨Nat.le_of_ble_eq_true rfl, Nat.le_of_ble_eq_true rfl⟩ (Nat.le_of_ble_eq_true rfl) (fun z => z) (mm_RQ (fun t => rX11_reorderCount (q := (360, t)) h (Nat.le_of_ble_eq_true rfl))) (fun x3 e4 => Or.inl ⟨_, _, rfl, fun z => z, ?_⟩)
  show mm_E2 _ _ _ _ _ [.int x3.1, .int x1] x3.2 _ _
  refine me_icmp_eq (pc' := 1168) (tgt := 3496) dL_law_1165 (by decide) rfl (fun c5 => ?_) (fun c5 => ?_)
  · exact jp x3.2
  · refine me_iconst (pc' := 1169) (v := 0) dL_law_1168 rfl kc_i0 ?_
    exact me_zret (b := false) dL_law_1169 rfl (fun z => z) rfl
def gL_c1170 (i : Int32) (j : mm_H → Option (Bool × mm_H)) (h : mm_H) : Option (Bool × mm_H) :=
(gX10_batchCount h).bind (fun (x1 : Int32) =>
(gX11_batchCount h).bind (fun (x3 : (Int32 × mm_H)) =>
if x1 = x3.1 then
j x3.2
else
some (false, x3.2)))
theorem rL_c1170 (i : Int32) (j : mm_H → Option (Bool × mm_H)) (jp : ∀ h, mm_E2 mm_SQ mm_SQ mL_law 3496 [some (.ref 360), some (.ref 0), some (.ref 352), some (.ref 358), some (.ref 359), some (.int i), none, none, none] [] h (j h) lf_ze) (h : mm_H) : mm_E2 mm_SQ mm_SQ mL_law 1170 [some (.ref 360), some (.ref 0), some (.ref 352), some (.ref 358), some (.ref 359), some (.int i), none, none, none] [] h (gL_c1170 i j h) lf_ze := by
  unfold gL_c1170
  refine me_aload_n (pc' := 1171) (i := 1) dL_law_1170 rfl rfl rfl ?_
  refine me_callV (As := []) (st := []) (F' := mm_SQ) (G' := mm_SQ) (F'' := mm_SQ) (pc' := 1174) dL_law_1171 rfl mfX10_batchCount rfl lkL_252 kd_0 rfl (mm_ltQ kd_0) ⟨Nat.le_of_ble_eq_true rfl, Nat.le_of_ble_eq_true rfl⟩ (Nat.le_of_ble_eq_true rfl) (fun z => z) (mm_RQ (fun t => rX10_batchCount (q := (360, t)) h )) (fun x1 e2 => Or.inl ⟨_, _, rfl, fun z => z, ?_⟩)
  show mm_E2 _ _ _ _ _ [.int x1] h _ _
  refine me_aload_n (pc' := 1175) (i := 2) dL_law_1174 rfl rfl rfl ?_
  refine me_callV (As := []) (st := [.int x1]) (F' := mm_SQ) (G' := mm_SQ) (F'' := mm_SQ) (pc' := 1178) dL_law_1175 rfl mfX11_batchCount rfl lkL_255 kd_352 rfl (mm_ltQ kd_352) ⟨Nat.le_of_ble_eq_true rfl, Nat.le_of_ble_eq_true rfl⟩ (Nat.le_of_ble_eq_true rfl) (fun z => z) (mm_RQ (fun t => rX11_batchCount (q := (360, t)) h (Nat.le_of_ble_eq_true rfl))) (fun x3 e4 => Or.inl ⟨_, _, rfl, fun z => z, ?_⟩)
  show mm_E2 _ _ _ _ _ [.int x3.1, .int x1] x3.2 _ _
  refine me_icmp_eq (pc' := 1181) (tgt := 3496) dL_law_1178 (by decide) rfl (fun c5 => ?_) (fun c5 => ?_)
  · exact jp x3.2
  · refine me_iconst (pc' := 1182) (v := 0) dL_law_1181 rfl kc_i0 ?_
    exact me_zret (b := false) dL_law_1182 rfl (fun z => z) rfl
def gL_c1183 (i : Int32) (j : mm_H → Option (Bool × mm_H)) (h : mm_H) : Option (Bool × mm_H) :=
if mm_isb ((i + 1)) (mh_I h 360 0) = true then
(gL_productOf ((mh_I h 360 (Int32.toNatClampNeg ((i + 1)) + 1))) h).bind (fun (x2 : (Int32 × mm_H)) =>
if mm_isb ((i + 1)) (mh_I x2.2 360 0) = true then
(gX11_productOf ((mh_I x2.2 360 (Int32.toNatClampNeg ((i + 1)) + 1))) x2.2).bind (fun (x5 : (Int32 × mm_H)) =>
(gX11_thrown x5.2).bind (fun (x7 : Int32) =>
if x7 = x2.1 then
mm_jn (fun (_ : Unit) =>
j x5.2) (fun (j10 : Unit → Option (Bool × mm_H)) =>
if x2.1 = 0 then
if mm_ibd 0 1 = true then
if (lg_cmp ((mh_J x5.2 358 (Int32.toNatClampNeg (0)))) ((x5.1).toInt64)) = 0 then
j10 ()
else
some (false, x5.2) else none
else
j10 ())
else
some (false, x5.2))) else none) else none
theorem rL_c1183 (i : Int32) (j : mm_H → Option (Bool × mm_H)) (jp : ∀ h, mm_E2 mm_SQ mm_SQ mL_law 3496 [some (.ref 360), some (.ref 0), some (.ref 352), some (.ref 358), some (.ref 359), some (.int i), none, none, none] [] h (j h) lf_ze) (h : mm_H) : mm_E2 mm_SQ mm_SQ mL_law 1183 [some (.ref 360), some (.ref 0), some (.ref 352), some (.ref 358), some (.ref 359), some (.int i), none, none, none] [] h (gL_c1183 i j h) lf_ze := by
  unfold gL_c1183
  refine me_aload_n (pc' := 1184) (i := 1) dL_law_1183 rfl rfl rfl ?_
  refine me_aload_n (pc' := 1185) (i := 0) dL_law_1184 rfl rfl rfl ?_
  refine me_iload (pc' := 1187) (i := 5) dL_law_1185 rfl rfl ?_
  refine me_iconst (pc' := 1188) (v := 1) dL_law_1187 rfl kc_i1 ?_
  refine me_iadd (pc' := 1189) dL_law_1188 rfl ?_
  refine mm_guard (fun c1 => ?_)
  refine me_scld (pc' := 1190) dL_law_1189 rfl c1 ?_
  refine me_aload_n (pc' := 1191) (i := 3) dL_law_1190 rfl rfl rfl ?_
  refine me_callSX (As := [.ref 0, .int (mh_I h 360 (Int32.toNatClampNeg ((i + 1)) + 1)), .ref 358]) (st := []) (F' := mm_SQ) (G' := mm_SQ) (F'' := mm_SQ) (pc' := 1194) dL_law_1191 rfl mfL_productOf rfl lx_256 ⟨Nat.le_of_ble_eq_true rfl, Nat.le_of_ble_eq_true rfl⟩ (Nat.le_of_ble_eq_true rfl) (fun z => z) (mm_RQ (fun t => rL_productOf (q := (360, t)) ((mh_I h 360 (Int32.toNatClampNeg ((i + 1)) + 1))) h (Nat.le_of_ble_eq_true rfl))) (fun x2 e3 => Or.inl ⟨_, _, rfl, fun z => z, ?_⟩)
  show mm_E2 _ _ _ _ _ [.int x2.1] x2.2 _ _
  refine me_istore (pc' := 1196) (i := 6) (L' := [some (.ref 360), some (.ref 0), some (.ref 352), some (.ref 358), some (.ref 359), some (.int i), some (.int x2.1), none, none]) dL_law_1194 rfl (Nat.le_of_ble_eq_true rfl) (Nat.le_of_ble_eq_true rfl) rfl ?_
  refine me_aload_n (pc' := 1197) (i := 2) dL_law_1196 rfl rfl rfl ?_
  refine me_aload_n (pc' := 1198) (i := 0) dL_law_1197 rfl rfl rfl ?_
  refine me_iload (pc' := 1200) (i := 5) dL_law_1198 rfl rfl ?_
  refine me_iconst (pc' := 1201) (v := 1) dL_law_1200 rfl kc_i1 ?_
  refine me_iadd (pc' := 1202) dL_law_1201 rfl ?_
  refine mm_guard (fun c4 => ?_)
  refine me_scld (pc' := 1203) dL_law_1202 rfl c4 ?_
  refine me_callV (As := [.int (mh_I x2.2 360 (Int32.toNatClampNeg ((i + 1)) + 1))]) (st := []) (F' := mm_SQ) (G' := mm_SQ) (F'' := mm_SQ) (pc' := 1206) dL_law_1203 rfl mfX11_productOf rfl lkL_258 kd_352 rfl (mm_ltQ kd_352) ⟨Nat.le_of_ble_eq_true rfl, Nat.le_of_ble_eq_true rfl⟩ (Nat.le_of_ble_eq_true rfl) (fun z => z) (mm_RQ (fun t => rX11_productOf (q := (360, t)) ((mh_I x2.2 360 (Int32.toNatClampNeg ((i + 1)) + 1))) x2.2 (Nat.le_of_ble_eq_true rfl))) (fun x5 e6 => Or.inl ⟨_, _, rfl, fun z => z, ?_⟩)
  show mm_E2 _ _ _ _ _ [.int x5.1] x5.2 _ _
  refine me_istore (pc' := 1208) (i := 7) (L' := [some (.ref 360), some (.ref 0), some (.ref 352), some (.ref 358), some (.ref 359), some (.int i), some (.int x2.1), some (.int x5.1), none]) dL_law_1206 rfl (Nat.le_of_ble_eq_true rfl) (Nat.le_of_ble_eq_true rfl) rfl ?_
  refine me_aload_n (pc' := 1209) (i := 2) dL_law_1208 rfl rfl rfl ?_
  refine me_callV (As := []) (st := []) (F' := mm_SQ) (G' := mm_SQ) (F'' := mm_SQ) (pc' := 1212) dL_law_1209 rfl mfX11_thrown rfl lkL_186 kd_352 rfl (mm_ltQ kd_352) ⟨Nat.le_of_ble_eq_true rfl, Nat.le_of_ble_eq_true rfl⟩ (Nat.le_of_ble_eq_true rfl) (fun z => z) (mm_RQ (fun t => rX11_thrown (q := (360, t)) x5.2 (Nat.le_of_ble_eq_true rfl))) (fun x7 e8 => Or.inl ⟨_, _, rfl, fun z => z, ?_⟩)
  show mm_E2 _ _ _ _ _ [.int x7] x5.2 _ _
  refine me_iload (pc' := 1214) (i := 6) dL_law_1212 rfl rfl ?_
  refine me_icmp_eq (pc' := 1217) (tgt := 1219) dL_law_1214 (by decide) rfl (fun c9 => ?_) (fun c9 => ?_)
  · refine me_iload (pc' := 1221) (i := 6) dL_law_1219 rfl rfl ?_
    refine mm_jnI (fun (j109 : Unit → Option (Bool × mm_H)) => ∀ (_ : Unit), mm_E2 mm_SQ mm_SQ mL_law 1236 [some (.ref 360), some (.ref 0), some (.ref 352), some (.ref 358), some (.ref 359), some (.int i), none, none, none] [] x5.2 (j109 ()) lf_ze) ?_ (fun j10 j10p => ?_)
    · intro _
      refine me_goto (tgt := 3496) dL_law_1236 (by decide) ?_
      exact jp x5.2
    refine me_if_ne (pc' := 1224) (tgt := 1236) dL_law_1221 (by decide) rfl (fun c11 => ?_) (fun c11 => ?_)
    · exact mm_maskB [true, true, true, true, true, true, false, false, false] (j10p ())
    · refine me_aload_n (pc' := 1225) (i := 3) dL_law_1224 rfl rfl rfl ?_
      refine me_iconst (pc' := 1226) (v := 0) dL_law_1225 rfl kc_i0 ?_
      refine mm_guard (fun c12 => ?_)
      refine me_lald (pc' := 1227) dL_law_1226 rfl kd_358 (mm_ltQ kd_358) (mm_ibd_of c12) ?_
      refine me_iload (pc' := 1229) (i := 7) dL_law_1227 rfl rfl ?_
      refine me_i2l (pc' := 1230) dL_law_1229 rfl ?_
      refine me_lcmp (pc' := 1231) dL_law_1230 rfl ?_
      refine me_if_eq (pc' := 1234) (tgt := 1236) dL_law_1231 (by decide) rfl (fun c13 => ?_) (fun c13 => ?_)
      · exact mm_maskB [true, true, true, true, true, true, false, false, false] (j10p ())
      · refine me_iconst (pc' := 1235) (v := 0) dL_law_1234 rfl kc_i0 ?_
        exact me_zret (b := false) dL_law_1235 rfl (fun z => z) rfl
  · refine me_iconst (pc' := 1218) (v := 0) dL_law_1217 rfl kc_i0 ?_
    exact me_zret (b := false) dL_law_1218 rfl (fun z => z) rfl
def gL_c1239 (i : Int32) (j : mm_H → Option (Bool × mm_H)) (h : mm_H) : Option (Bool × mm_H) :=
if mm_isb ((i + 1)) (mh_I h 360 0) = true then
(gL_quantity ((mh_I h 360 (Int32.toNatClampNeg ((i + 1)) + 1))) h).bind (fun (x2 : (Int32 × mm_H)) =>
if mm_isb ((i + 1)) (mh_I x2.2 360 0) = true then
(gX11_quantity ((mh_I x2.2 360 (Int32.toNatClampNeg ((i + 1)) + 1))) x2.2).bind (fun (x5 : (Int32 × mm_H)) =>
(gX11_thrown x5.2).bind (fun (x7 : Int32) =>
if x7 = x2.1 then
mm_jn (fun (_ : Unit) =>
j x5.2) (fun (j10 : Unit → Option (Bool × mm_H)) =>
if x2.1 = 0 then
if mm_ibd 0 1 = true then
if (lg_cmp ((mh_J x5.2 358 (Int32.toNatClampNeg (0)))) ((x5.1).toInt64)) = 0 then
j10 ()
else
some (false, x5.2) else none
else
j10 ())
else
some (false, x5.2))) else none) else none
theorem rL_c1239 (i : Int32) (j : mm_H → Option (Bool × mm_H)) (jp : ∀ h, mm_E2 mm_SQ mm_SQ mL_law 3496 [some (.ref 360), some (.ref 0), some (.ref 352), some (.ref 358), some (.ref 359), some (.int i), none, none, none] [] h (j h) lf_ze) (h : mm_H) : mm_E2 mm_SQ mm_SQ mL_law 1239 [some (.ref 360), some (.ref 0), some (.ref 352), some (.ref 358), some (.ref 359), some (.int i), none, none, none] [] h (gL_c1239 i j h) lf_ze := by
  unfold gL_c1239
  refine me_aload_n (pc' := 1240) (i := 1) dL_law_1239 rfl rfl rfl ?_
  refine me_aload_n (pc' := 1241) (i := 0) dL_law_1240 rfl rfl rfl ?_
  refine me_iload (pc' := 1243) (i := 5) dL_law_1241 rfl rfl ?_
  refine me_iconst (pc' := 1244) (v := 1) dL_law_1243 rfl kc_i1 ?_
  refine me_iadd (pc' := 1245) dL_law_1244 rfl ?_
  refine mm_guard (fun c1 => ?_)
  refine me_scld (pc' := 1246) dL_law_1245 rfl c1 ?_
  refine me_aload_n (pc' := 1247) (i := 3) dL_law_1246 rfl rfl rfl ?_
  refine me_callSX (As := [.ref 0, .int (mh_I h 360 (Int32.toNatClampNeg ((i + 1)) + 1)), .ref 358]) (st := []) (F' := mm_SQ) (G' := mm_SQ) (F'' := mm_SQ) (pc' := 1250) dL_law_1247 rfl mfL_quantity rfl lx_259 ⟨Nat.le_of_ble_eq_true rfl, Nat.le_of_ble_eq_true rfl⟩ (Nat.le_of_ble_eq_true rfl) (fun z => z) (mm_RQ (fun t => rL_quantity (q := (360, t)) ((mh_I h 360 (Int32.toNatClampNeg ((i + 1)) + 1))) h (Nat.le_of_ble_eq_true rfl))) (fun x2 e3 => Or.inl ⟨_, _, rfl, fun z => z, ?_⟩)
  show mm_E2 _ _ _ _ _ [.int x2.1] x2.2 _ _
  refine me_istore (pc' := 1252) (i := 6) (L' := [some (.ref 360), some (.ref 0), some (.ref 352), some (.ref 358), some (.ref 359), some (.int i), some (.int x2.1), none, none]) dL_law_1250 rfl (Nat.le_of_ble_eq_true rfl) (Nat.le_of_ble_eq_true rfl) rfl ?_
  refine me_aload_n (pc' := 1253) (i := 2) dL_law_1252 rfl rfl rfl ?_
  refine me_aload_n (pc' := 1254) (i := 0) dL_law_1253 rfl rfl rfl ?_
  refine me_iload (pc' := 1256) (i := 5) dL_law_1254 rfl rfl ?_
  refine me_iconst (pc' := 1257) (v := 1) dL_law_1256 rfl kc_i1 ?_
  refine me_iadd (pc' := 1258) dL_law_1257 rfl ?_
  refine mm_guard (fun c4 => ?_)
  refine me_scld (pc' := 1259) dL_law_1258 rfl c4 ?_
  refine me_callV (As := [.int (mh_I x2.2 360 (Int32.toNatClampNeg ((i + 1)) + 1))]) (st := []) (F' := mm_SQ) (G' := mm_SQ) (F'' := mm_SQ) (pc' := 1262) dL_law_1259 rfl mfX11_quantity rfl lkL_261 kd_352 rfl (mm_ltQ kd_352) ⟨Nat.le_of_ble_eq_true rfl, Nat.le_of_ble_eq_true rfl⟩ (Nat.le_of_ble_eq_true rfl) (fun z => z) (mm_RQ (fun t => rX11_quantity (q := (360, t)) ((mh_I x2.2 360 (Int32.toNatClampNeg ((i + 1)) + 1))) x2.2 (Nat.le_of_ble_eq_true rfl))) (fun x5 e6 => Or.inl ⟨_, _, rfl, fun z => z, ?_⟩)
  show mm_E2 _ _ _ _ _ [.int x5.1] x5.2 _ _
  refine me_istore (pc' := 1264) (i := 7) (L' := [some (.ref 360), some (.ref 0), some (.ref 352), some (.ref 358), some (.ref 359), some (.int i), some (.int x2.1), some (.int x5.1), none]) dL_law_1262 rfl (Nat.le_of_ble_eq_true rfl) (Nat.le_of_ble_eq_true rfl) rfl ?_
  refine me_aload_n (pc' := 1265) (i := 2) dL_law_1264 rfl rfl rfl ?_
  refine me_callV (As := []) (st := []) (F' := mm_SQ) (G' := mm_SQ) (F'' := mm_SQ) (pc' := 1268) dL_law_1265 rfl mfX11_thrown rfl lkL_186 kd_352 rfl (mm_ltQ kd_352) ⟨Nat.le_of_ble_eq_true rfl, Nat.le_of_ble_eq_true rfl⟩ (Nat.le_of_ble_eq_true rfl) (fun z => z) (mm_RQ (fun t => rX11_thrown (q := (360, t)) x5.2 (Nat.le_of_ble_eq_true rfl))) (fun x7 e8 => Or.inl ⟨_, _, rfl, fun z => z, ?_⟩)
  show mm_E2 _ _ _ _ _ [.int x7] x5.2 _ _
  refine me_iload (pc' := 1270) (i := 6) dL_law_1268 rfl rfl ?_
  refine me_icmp_eq (pc' := 1273) (tgt := 1275) dL_law_1270 (by decide) rfl (fun c9 => ?_) (fun c9 => ?_)
  · refine me_iload (pc' := 1277) (i := 6) dL_law_1275 rfl rfl ?_
    refine mm_jnI (fun (j109 : Unit → Option (Bool × mm_H)) => ∀ (_ : Unit), mm_E2 mm_SQ mm_SQ mL_law 1292 [some (.ref 360), some (.ref 0), some (.ref 352), some (.ref 358), some (.ref 359), some (.int i), none, none, none] [] x5.2 (j109 ()) lf_ze) ?_ (fun j10 j10p => ?_)
    · intro _
      refine me_goto (tgt := 3496) dL_law_1292 (by decide) ?_
      exact jp x5.2
    refine me_if_ne (pc' := 1280) (tgt := 1292) dL_law_1277 (by decide) rfl (fun c11 => ?_) (fun c11 => ?_)
    · exact mm_maskB [true, true, true, true, true, true, false, false, false] (j10p ())
    · refine me_aload_n (pc' := 1281) (i := 3) dL_law_1280 rfl rfl rfl ?_
      refine me_iconst (pc' := 1282) (v := 0) dL_law_1281 rfl kc_i0 ?_
      refine mm_guard (fun c12 => ?_)
      refine me_lald (pc' := 1283) dL_law_1282 rfl kd_358 (mm_ltQ kd_358) (mm_ibd_of c12) ?_
      refine me_iload (pc' := 1285) (i := 7) dL_law_1283 rfl rfl ?_
      refine me_i2l (pc' := 1286) dL_law_1285 rfl ?_
      refine me_lcmp (pc' := 1287) dL_law_1286 rfl ?_
      refine me_if_eq (pc' := 1290) (tgt := 1292) dL_law_1287 (by decide) rfl (fun c13 => ?_) (fun c13 => ?_)
      · exact mm_maskB [true, true, true, true, true, true, false, false, false] (j10p ())
      · refine me_iconst (pc' := 1291) (v := 0) dL_law_1290 rfl kc_i0 ?_
        exact me_zret (b := false) dL_law_1291 rfl (fun z => z) rfl
  · refine me_iconst (pc' := 1274) (v := 0) dL_law_1273 rfl kc_i0 ?_
    exact me_zret (b := false) dL_law_1274 rfl (fun z => z) rfl
def gL_c1295 (i : Int32) (j : mm_H → Option (Bool × mm_H)) (h : mm_H) : Option (Bool × mm_H) :=
if mm_isb ((i + 1)) (mh_I h 360 0) = true then
(gL_reservedOf ((mh_I h 360 (Int32.toNatClampNeg ((i + 1)) + 1))) h).bind (fun (x2 : (Int32 × mm_H)) =>
if mm_isb ((i + 1)) (mh_I x2.2 360 0) = true then
(gX11_reservedOf ((mh_I x2.2 360 (Int32.toNatClampNeg ((i + 1)) + 1))) x2.2).bind (fun (x5 : (Int32 × mm_H)) =>
(gX11_thrown x5.2).bind (fun (x7 : Int32) =>
if x7 = x2.1 then
mm_jn (fun (_ : Unit) =>
j x5.2) (fun (j10 : Unit → Option (Bool × mm_H)) =>
if x2.1 = 0 then
if mm_ibd 0 1 = true then
if (lg_cmp ((mh_J x5.2 358 (Int32.toNatClampNeg (0)))) ((x5.1).toInt64)) = 0 then
j10 ()
else
some (false, x5.2) else none
else
j10 ())
else
some (false, x5.2))) else none) else none
theorem rL_c1295 (i : Int32) (j : mm_H → Option (Bool × mm_H)) (jp : ∀ h, mm_E2 mm_SQ mm_SQ mL_law 3496 [some (.ref 360), some (.ref 0), some (.ref 352), some (.ref 358), some (.ref 359), some (.int i), none, none, none] [] h (j h) lf_ze) (h : mm_H) : mm_E2 mm_SQ mm_SQ mL_law 1295 [some (.ref 360), some (.ref 0), some (.ref 352), some (.ref 358), some (.ref 359), some (.int i), none, none, none] [] h (gL_c1295 i j h) lf_ze := by
  unfold gL_c1295
  refine me_aload_n (pc' := 1296) (i := 1) dL_law_1295 rfl rfl rfl ?_
  refine me_aload_n (pc' := 1297) (i := 0) dL_law_1296 rfl rfl rfl ?_
  refine me_iload (pc' := 1299) (i := 5) dL_law_1297 rfl rfl ?_
  refine me_iconst (pc' := 1300) (v := 1) dL_law_1299 rfl kc_i1 ?_
  refine me_iadd (pc' := 1301) dL_law_1300 rfl ?_
  refine mm_guard (fun c1 => ?_)
  refine me_scld (pc' := 1302) dL_law_1301 rfl c1 ?_
  refine me_aload_n (pc' := 1303) (i := 3) dL_law_1302 rfl rfl rfl ?_
  refine me_callSX (As := [.ref 0, .int (mh_I h 360 (Int32.toNatClampNeg ((i + 1)) + 1)), .ref 358]) (st := []) (F' := mm_SQ) (G' := mm_SQ) (F'' := mm_SQ) (pc' := 1306) dL_law_1303 rfl mfL_reservedOf rfl lx_262 ⟨Nat.le_of_ble_eq_true rfl, Nat.le_of_ble_eq_true rfl⟩ (Nat.le_of_ble_eq_true rfl) (fun z => z) (mm_RQ (fun t => rL_reservedOf (q := (360, t)) ((mh_I h 360 (Int32.toNatClampNeg ((i + 1)) + 1))) h (Nat.le_of_ble_eq_true rfl))) (fun x2 e3 => Or.inl ⟨_, _, rfl, fun z => z, ?_⟩)
  show mm_E2 _ _ _ _ _ [.int x2.1] x2.2 _ _
  refine me_istore (pc' := 1308) (i := 6) (L' := [some (.ref 360), some (.ref 0), some (.ref 352), some (.ref 358), some (.ref 359), some (.int i), some (.int x2.1), none, none]) dL_law_1306 rfl (Nat.le_of_ble_eq_true rfl) (Nat.le_of_ble_eq_true rfl) rfl ?_
  refine me_aload_n (pc' := 1309) (i := 2) dL_law_1308 rfl rfl rfl ?_
  refine me_aload_n (pc' := 1310) (i := 0) dL_law_1309 rfl rfl rfl ?_
  refine me_iload (pc' := 1312) (i := 5) dL_law_1310 rfl rfl ?_
  refine me_iconst (pc' := 1313) (v := 1) dL_law_1312 rfl kc_i1 ?_
  refine me_iadd (pc' := 1314) dL_law_1313 rfl ?_
  refine mm_guard (fun c4 => ?_)
  refine me_scld (pc' := 1315) dL_law_1314 rfl c4 ?_
  refine me_callV (As := [.int (mh_I x2.2 360 (Int32.toNatClampNeg ((i + 1)) + 1))]) (st := []) (F' := mm_SQ) (G' := mm_SQ) (F'' := mm_SQ) (pc' := 1318) dL_law_1315 rfl mfX11_reservedOf rfl lkL_264 kd_352 rfl (mm_ltQ kd_352) ⟨Nat.le_of_ble_eq_true rfl, Nat.le_of_ble_eq_true rfl⟩ (Nat.le_of_ble_eq_true rfl) (fun z => z) (mm_RQ (fun t => rX11_reservedOf (q := (360, t)) ((mh_I x2.2 360 (Int32.toNatClampNeg ((i + 1)) + 1))) x2.2 (Nat.le_of_ble_eq_true rfl))) (fun x5 e6 => Or.inl ⟨_, _, rfl, fun z => z, ?_⟩)
  show mm_E2 _ _ _ _ _ [.int x5.1] x5.2 _ _
  refine me_istore (pc' := 1320) (i := 7) (L' := [some (.ref 360), some (.ref 0), some (.ref 352), some (.ref 358), some (.ref 359), some (.int i), some (.int x2.1), some (.int x5.1), none]) dL_law_1318 rfl (Nat.le_of_ble_eq_true rfl) (Nat.le_of_ble_eq_true rfl) rfl ?_
  refine me_aload_n (pc' := 1321) (i := 2) dL_law_1320 rfl rfl rfl ?_
  refine me_callV (As := []) (st := []) (F' := mm_SQ) (G' := mm_SQ) (F'' := mm_SQ) (pc' := 1324) dL_law_1321 rfl mfX11_thrown rfl lkL_186 kd_352 rfl (mm_ltQ kd_352) ⟨Nat.le_of_ble_eq_true rfl, Nat.le_of_ble_eq_true rfl⟩ (Nat.le_of_ble_eq_true rfl) (fun z => z) (mm_RQ (fun t => rX11_thrown (q := (360, t)) x5.2 (Nat.le_of_ble_eq_true rfl))) (fun x7 e8 => Or.inl ⟨_, _, rfl, fun z => z, ?_⟩)
  show mm_E2 _ _ _ _ _ [.int x7] x5.2 _ _
  refine me_iload (pc' := 1326) (i := 6) dL_law_1324 rfl rfl ?_
  refine me_icmp_eq (pc' := 1329) (tgt := 1331) dL_law_1326 (by decide) rfl (fun c9 => ?_) (fun c9 => ?_)
  · refine me_iload (pc' := 1333) (i := 6) dL_law_1331 rfl rfl ?_
    refine mm_jnI (fun (j109 : Unit → Option (Bool × mm_H)) => ∀ (_ : Unit), mm_E2 mm_SQ mm_SQ mL_law 1348 [some (.ref 360), some (.ref 0), some (.ref 352), some (.ref 358), some (.ref 359), some (.int i), none, none, none] [] x5.2 (j109 ()) lf_ze) ?_ (fun j10 j10p => ?_)
    · intro _
      refine me_goto (tgt := 3496) dL_law_1348 (by decide) ?_
      exact jp x5.2
    refine me_if_ne (pc' := 1336) (tgt := 1348) dL_law_1333 (by decide) rfl (fun c11 => ?_) (fun c11 => ?_)
    · exact mm_maskB [true, true, true, true, true, true, false, false, false] (j10p ())
    · refine me_aload_n (pc' := 1337) (i := 3) dL_law_1336 rfl rfl rfl ?_
      refine me_iconst (pc' := 1338) (v := 0) dL_law_1337 rfl kc_i0 ?_
      refine mm_guard (fun c12 => ?_)
      refine me_lald (pc' := 1339) dL_law_1338 rfl kd_358 (mm_ltQ kd_358) (mm_ibd_of c12) ?_
      refine me_iload (pc' := 1341) (i := 7) dL_law_1339 rfl rfl ?_
      refine me_i2l (pc' := 1342) dL_law_1341 rfl ?_
      refine me_lcmp (pc' := 1343) dL_law_1342 rfl ?_
      refine me_if_eq (pc' := 1346) (tgt := 1348) dL_law_1343 (by decide) rfl (fun c13 => ?_) (fun c13 => ?_)
      · exact mm_maskB [true, true, true, true, true, true, false, false, false] (j10p ())
      · refine me_iconst (pc' := 1347) (v := 0) dL_law_1346 rfl kc_i0 ?_
        exact me_zret (b := false) dL_law_1347 rfl (fun z => z) rfl
  · refine me_iconst (pc' := 1330) (v := 0) dL_law_1329 rfl kc_i0 ?_
    exact me_zret (b := false) dL_law_1330 rfl (fun z => z) rfl
def gL_c1351 (i : Int32) (j : mm_H → Option (Bool × mm_H)) (h : mm_H) : Option (Bool × mm_H) :=
if mm_isb ((i + 1)) (mh_I h 360 0) = true then
(gL_expiryDay ((mh_I h 360 (Int32.toNatClampNeg ((i + 1)) + 1))) h).bind (fun (x2 : (Int32 × mm_H)) =>
if mm_isb ((i + 1)) (mh_I x2.2 360 0) = true then
(gX11_expiryDay ((mh_I x2.2 360 (Int32.toNatClampNeg ((i + 1)) + 1))) x2.2).bind (fun (x5 : (Int32 × mm_H)) =>
(gX11_thrown x5.2).bind (fun (x7 : Int32) =>
if x7 = x2.1 then
mm_jn (fun (_ : Unit) =>
j x5.2) (fun (j10 : Unit → Option (Bool × mm_H)) =>
if x2.1 = 0 then
if mm_ibd 0 1 = true then
if (lg_cmp ((mh_J x5.2 358 (Int32.toNatClampNeg (0)))) ((x5.1).toInt64)) = 0 then
j10 ()
else
some (false, x5.2) else none
else
j10 ())
else
some (false, x5.2))) else none) else none
theorem rL_c1351 (i : Int32) (j : mm_H → Option (Bool × mm_H)) (jp : ∀ h, mm_E2 mm_SQ mm_SQ mL_law 3496 [some (.ref 360), some (.ref 0), some (.ref 352), some (.ref 358), some (.ref 359), some (.int i), none, none, none] [] h (j h) lf_ze) (h : mm_H) : mm_E2 mm_SQ mm_SQ mL_law 1351 [some (.ref 360), some (.ref 0), some (.ref 352), some (.ref 358), some (.ref 359), some (.int i), none, none, none] [] h (gL_c1351 i j h) lf_ze := by
  unfold gL_c1351
  refine me_aload_n (pc' := 1352) (i := 1) dL_law_1351 rfl rfl rfl ?_
  refine me_aload_n (pc' := 1353) (i := 0) dL_law_1352 rfl rfl rfl ?_
  refine me_iload (pc' := 1355) (i := 5) dL_law_1353 rfl rfl ?_
  refine me_iconst (pc' := 1356) (v := 1) dL_law_1355 rfl kc_i1 ?_
  refine me_iadd (pc' := 1357) dL_law_1356 rfl ?_
  refine mm_guard (fun c1 => ?_)
  refine me_scld (pc' := 1358) dL_law_1357 rfl c1 ?_
  refine me_aload_n (pc' := 1359) (i := 3) dL_law_1358 rfl rfl rfl ?_
  refine me_callSX (As := [.ref 0, .int (mh_I h 360 (Int32.toNatClampNeg ((i + 1)) + 1)), .ref 358]) (st := []) (F' := mm_SQ) (G' := mm_SQ) (F'' := mm_SQ) (pc' := 1362) dL_law_1359 rfl mfL_expiryDay rfl lx_265 ⟨Nat.le_of_ble_eq_true rfl, Nat.le_of_ble_eq_true rfl⟩ (Nat.le_of_ble_eq_true rfl) (fun z => z) (mm_RQ (fun t => rL_expiryDay (q := (360, t)) ((mh_I h 360 (Int32.toNatClampNeg ((i + 1)) + 1))) h (Nat.le_of_ble_eq_true rfl))) (fun x2 e3 => Or.inl ⟨_, _, rfl, fun z => z, ?_⟩)
  show mm_E2 _ _ _ _ _ [.int x2.1] x2.2 _ _
  refine me_istore (pc' := 1364) (i := 6) (L' := [some (.ref 360), some (.ref 0), some (.ref 352), some (.ref 358), some (.ref 359), some (.int i), some (.int x2.1), none, none]) dL_law_1362 rfl (Nat.le_of_ble_eq_true rfl) (Nat.le_of_ble_eq_true rfl) rfl ?_
  refine me_aload_n (pc' := 1365) (i := 2) dL_law_1364 rfl rfl rfl ?_
  refine me_aload_n (pc' := 1366) (i := 0) dL_law_1365 rfl rfl rfl ?_
  refine me_iload (pc' := 1368) (i := 5) dL_law_1366 rfl rfl ?_
  refine me_iconst (pc' := 1369) (v := 1) dL_law_1368 rfl kc_i1 ?_
  refine me_iadd (pc' := 1370) dL_law_1369 rfl ?_
  refine mm_guard (fun c4 => ?_)
  refine me_scld (pc' := 1371) dL_law_1370 rfl c4 ?_
  refine me_callV (As := [.int (mh_I x2.2 360 (Int32.toNatClampNeg ((i + 1)) + 1))]) (st := []) (F' := mm_SQ) (G' := mm_SQ) (F'' := mm_SQ) (pc' := 1374) dL_law_1371 rfl mfX11_expiryDay rfl lkL_267 kd_352 rfl (mm_ltQ kd_352) ⟨Nat.le_of_ble_eq_true rfl, Nat.le_of_ble_eq_true rfl⟩ (Nat.le_of_ble_eq_true rfl) (fun z => z) (mm_RQ (fun t => rX11_expiryDay (q := (360, t)) ((mh_I x2.2 360 (Int32.toNatClampNeg ((i + 1)) + 1))) x2.2 (Nat.le_of_ble_eq_true rfl))) (fun x5 e6 => Or.inl ⟨_, _, rfl, fun z => z, ?_⟩)
  show mm_E2 _ _ _ _ _ [.int x5.1] x5.2 _ _
  refine me_istore (pc' := 1376) (i := 7) (L' := [some (.ref 360), some (.ref 0), some (.ref 352), some (.ref 358), some (.ref 359), some (.int i), some (.int x2.1), some (.int x5.1), none]) dL_law_1374 rfl (Nat.le_of_ble_eq_true rfl) (Nat.le_of_ble_eq_true rfl) rfl ?_
  refine me_aload_n (pc' := 1377) (i := 2) dL_law_1376 rfl rfl rfl ?_
  refine me_callV (As := []) (st := []) (F' := mm_SQ) (G' := mm_SQ) (F'' := mm_SQ) (pc' := 1380) dL_law_1377 rfl mfX11_thrown rfl lkL_186 kd_352 rfl (mm_ltQ kd_352) ⟨Nat.le_of_ble_eq_true rfl, Nat.le_of_ble_eq_true rfl⟩ (Nat.le_of_ble_eq_true rfl) (fun z => z) (mm_RQ (fun t => rX11_thrown (q := (360, t)) x5.2 (Nat.le_of_ble_eq_true rfl))) (fun x7 e8 => Or.inl ⟨_, _, rfl, fun z => z, ?_⟩)
  show mm_E2 _ _ _ _ _ [.int x7] x5.2 _ _
  refine me_iload (pc' := 1382) (i := 6) dL_law_1380 rfl rfl ?_
  refine me_icmp_eq (pc' := 1385) (tgt := 1387) dL_law_1382 (by decide) rfl (fun c9 => ?_) (fun c9 => ?_)
  · refine me_iload (pc' := 1389) (i := 6) dL_law_1387 rfl rfl ?_
    refine mm_jnI (fun (j109 : Unit → Option (Bool × mm_H)) => ∀ (_ : Unit), mm_E2 mm_SQ mm_SQ mL_law 1404 [some (.ref 360), some (.ref 0), some (.ref 352), some (.ref 358), some (.ref 359), some (.int i), none, none, none] [] x5.2 (j109 ()) lf_ze) ?_ (fun j10 j10p => ?_)
    · intro _
      refine me_goto (tgt := 3496) dL_law_1404 (by decide) ?_
      exact jp x5.2
    refine me_if_ne (pc' := 1392) (tgt := 1404) dL_law_1389 (by decide) rfl (fun c11 => ?_) (fun c11 => ?_)
    · exact mm_maskB [true, true, true, true, true, true, false, false, false] (j10p ())
    · refine me_aload_n (pc' := 1393) (i := 3) dL_law_1392 rfl rfl rfl ?_
      refine me_iconst (pc' := 1394) (v := 0) dL_law_1393 rfl kc_i0 ?_
      refine mm_guard (fun c12 => ?_)
      refine me_lald (pc' := 1395) dL_law_1394 rfl kd_358 (mm_ltQ kd_358) (mm_ibd_of c12) ?_
      refine me_iload (pc' := 1397) (i := 7) dL_law_1395 rfl rfl ?_
      refine me_i2l (pc' := 1398) dL_law_1397 rfl ?_
      refine me_lcmp (pc' := 1399) dL_law_1398 rfl ?_
      refine me_if_eq (pc' := 1402) (tgt := 1404) dL_law_1399 (by decide) rfl (fun c13 => ?_) (fun c13 => ?_)
      · exact mm_maskB [true, true, true, true, true, true, false, false, false] (j10p ())
      · refine me_iconst (pc' := 1403) (v := 0) dL_law_1402 rfl kc_i0 ?_
        exact me_zret (b := false) dL_law_1403 rfl (fun z => z) rfl
  · refine me_iconst (pc' := 1386) (v := 0) dL_law_1385 rfl kc_i0 ?_
    exact me_zret (b := false) dL_law_1386 rfl (fun z => z) rfl
def gL_c1407 (i : Int32) (j : mm_H → Option (Bool × mm_H)) (h : mm_H) : Option (Bool × mm_H) :=
if mm_isb ((i + 1)) (mh_I h 360 0) = true then
(gL_unitCost ((mh_I h 360 (Int32.toNatClampNeg ((i + 1)) + 1))) h).bind (fun (x2 : (Int32 × mm_H)) =>
if mm_isb ((i + 1)) (mh_I x2.2 360 0) = true then
(gX11_unitCost ((mh_I x2.2 360 (Int32.toNatClampNeg ((i + 1)) + 1))) x2.2).bind (fun (x5 : (Int32 × mm_H)) =>
(gX11_thrown x5.2).bind (fun (x7 : Int32) =>
if x7 = x2.1 then
mm_jn (fun (_ : Unit) =>
j x5.2) (fun (j10 : Unit → Option (Bool × mm_H)) =>
if x2.1 = 0 then
if mm_ibd 0 1 = true then
if (lg_cmp ((mh_J x5.2 358 (Int32.toNatClampNeg (0)))) ((x5.1).toInt64)) = 0 then
j10 ()
else
some (false, x5.2) else none
else
j10 ())
else
some (false, x5.2))) else none) else none
theorem rL_c1407 (i : Int32) (j : mm_H → Option (Bool × mm_H)) (jp : ∀ h, mm_E2 mm_SQ mm_SQ mL_law 3496 [some (.ref 360), some (.ref 0), some (.ref 352), some (.ref 358), some (.ref 359), some (.int i), none, none, none] [] h (j h) lf_ze) (h : mm_H) : mm_E2 mm_SQ mm_SQ mL_law 1407 [some (.ref 360), some (.ref 0), some (.ref 352), some (.ref 358), some (.ref 359), some (.int i), none, none, none] [] h (gL_c1407 i j h) lf_ze := by
  unfold gL_c1407
  refine me_aload_n (pc' := 1408) (i := 1) dL_law_1407 rfl rfl rfl ?_
  refine me_aload_n (pc' := 1409) (i := 0) dL_law_1408 rfl rfl rfl ?_
  refine me_iload (pc' := 1411) (i := 5) dL_law_1409 rfl rfl ?_
  refine me_iconst (pc' := 1412) (v := 1) dL_law_1411 rfl kc_i1 ?_
  refine me_iadd (pc' := 1413) dL_law_1412 rfl ?_
  refine mm_guard (fun c1 => ?_)
  refine me_scld (pc' := 1414) dL_law_1413 rfl c1 ?_
  refine me_aload_n (pc' := 1415) (i := 3) dL_law_1414 rfl rfl rfl ?_
  refine me_callSX (As := [.ref 0, .int (mh_I h 360 (Int32.toNatClampNeg ((i + 1)) + 1)), .ref 358]) (st := []) (F' := mm_SQ) (G' := mm_SQ) (F'' := mm_SQ) (pc' := 1418) dL_law_1415 rfl mfL_unitCost rfl lx_268 ⟨Nat.le_of_ble_eq_true rfl, Nat.le_of_ble_eq_true rfl⟩ (Nat.le_of_ble_eq_true rfl) (fun z => z) (mm_RQ (fun t => rL_unitCost (q := (360, t)) ((mh_I h 360 (Int32.toNatClampNeg ((i + 1)) + 1))) h (Nat.le_of_ble_eq_true rfl))) (fun x2 e3 => Or.inl ⟨_, _, rfl, fun z => z, ?_⟩)
  show mm_E2 _ _ _ _ _ [.int x2.1] x2.2 _ _
  refine me_istore (pc' := 1420) (i := 6) (L' := [some (.ref 360), some (.ref 0), some (.ref 352), some (.ref 358), some (.ref 359), some (.int i), some (.int x2.1), none, none]) dL_law_1418 rfl (Nat.le_of_ble_eq_true rfl) (Nat.le_of_ble_eq_true rfl) rfl ?_
  refine me_aload_n (pc' := 1421) (i := 2) dL_law_1420 rfl rfl rfl ?_
  refine me_aload_n (pc' := 1422) (i := 0) dL_law_1421 rfl rfl rfl ?_
  refine me_iload (pc' := 1424) (i := 5) dL_law_1422 rfl rfl ?_
  refine me_iconst (pc' := 1425) (v := 1) dL_law_1424 rfl kc_i1 ?_
  refine me_iadd (pc' := 1426) dL_law_1425 rfl ?_
  refine mm_guard (fun c4 => ?_)
  refine me_scld (pc' := 1427) dL_law_1426 rfl c4 ?_
  refine me_callV (As := [.int (mh_I x2.2 360 (Int32.toNatClampNeg ((i + 1)) + 1))]) (st := []) (F' := mm_SQ) (G' := mm_SQ) (F'' := mm_SQ) (pc' := 1430) dL_law_1427 rfl mfX11_unitCost rfl lkL_270 kd_352 rfl (mm_ltQ kd_352) ⟨Nat.le_of_ble_eq_true rfl, Nat.le_of_ble_eq_true rfl⟩ (Nat.le_of_ble_eq_true rfl) (fun z => z) (mm_RQ (fun t => rX11_unitCost (q := (360, t)) ((mh_I x2.2 360 (Int32.toNatClampNeg ((i + 1)) + 1))) x2.2 (Nat.le_of_ble_eq_true rfl))) (fun x5 e6 => Or.inl ⟨_, _, rfl, fun z => z, ?_⟩)
  show mm_E2 _ _ _ _ _ [.int x5.1] x5.2 _ _
  refine me_istore (pc' := 1432) (i := 7) (L' := [some (.ref 360), some (.ref 0), some (.ref 352), some (.ref 358), some (.ref 359), some (.int i), some (.int x2.1), some (.int x5.1), none]) dL_law_1430 rfl (Nat.le_of_ble_eq_true rfl) (Nat.le_of_ble_eq_true rfl) rfl ?_
  refine me_aload_n (pc' := 1433) (i := 2) dL_law_1432 rfl rfl rfl ?_
  refine me_callV (As := []) (st := []) (F' := mm_SQ) (G' := mm_SQ) (F'' := mm_SQ) (pc' := 1436) dL_law_1433 rfl mfX11_thrown rfl lkL_186 kd_352 rfl (mm_ltQ kd_352) ⟨Nat.le_of_ble_eq_true rfl, Nat.le_of_ble_eq_true rfl⟩ (Nat.le_of_ble_eq_true rfl) (fun z => z) (mm_RQ (fun t => rX11_thrown (q := (360, t)) x5.2 (Nat.le_of_ble_eq_true rfl))) (fun x7 e8 => Or.inl ⟨_, _, rfl, fun z => z, ?_⟩)
  show mm_E2 _ _ _ _ _ [.int x7] x5.2 _ _
  refine me_iload (pc' := 1438) (i := 6) dL_law_1436 rfl rfl ?_
  refine me_icmp_eq (pc' := 1441) (tgt := 1443) dL_law_1438 (by decide) rfl (fun c9 => ?_) (fun c9 => ?_)
  · refine me_iload (pc' := 1445) (i := 6) dL_law_1443 rfl rfl ?_
    refine mm_jnI (fun (j109 : Unit → Option (Bool × mm_H)) => ∀ (_ : Unit), mm_E2 mm_SQ mm_SQ mL_law 1460 [some (.ref 360), some (.ref 0), some (.ref 352), some (.ref 358), some (.ref 359), some (.int i), none, none, none] [] x5.2 (j109 ()) lf_ze) ?_ (fun j10 j10p => ?_)
    · intro _
      refine me_goto (tgt := 3496) dL_law_1460 (by decide) ?_
      exact jp x5.2
    refine me_if_ne (pc' := 1448) (tgt := 1460) dL_law_1445 (by decide) rfl (fun c11 => ?_) (fun c11 => ?_)
    · exact mm_maskB [true, true, true, true, true, true, false, false, false] (j10p ())
    · refine me_aload_n (pc' := 1449) (i := 3) dL_law_1448 rfl rfl rfl ?_
      refine me_iconst (pc' := 1450) (v := 0) dL_law_1449 rfl kc_i0 ?_
      refine mm_guard (fun c12 => ?_)
      refine me_lald (pc' := 1451) dL_law_1450 rfl kd_358 (mm_ltQ kd_358) (mm_ibd_of c12) ?_
      refine me_iload (pc' := 1453) (i := 7) dL_law_1451 rfl rfl ?_
      refine me_i2l (pc' := 1454) dL_law_1453 rfl ?_
      refine me_lcmp (pc' := 1455) dL_law_1454 rfl ?_
      refine me_if_eq (pc' := 1458) (tgt := 1460) dL_law_1455 (by decide) rfl (fun c13 => ?_) (fun c13 => ?_)
      · exact mm_maskB [true, true, true, true, true, true, false, false, false] (j10p ())
      · refine me_iconst (pc' := 1459) (v := 0) dL_law_1458 rfl kc_i0 ?_
        exact me_zret (b := false) dL_law_1459 rfl (fun z => z) rfl
  · refine me_iconst (pc' := 1442) (v := 0) dL_law_1441 rfl kc_i0 ?_
    exact me_zret (b := false) dL_law_1442 rfl (fun z => z) rfl
def gL_c1463 (i : Int32) (j : mm_H → Option (Bool × mm_H)) (h : mm_H) : Option (Bool × mm_H) :=
if mm_isb ((i + 1)) (mh_I h 360 0) = true then
(gL_isExpired ((mh_I h 360 (Int32.toNatClampNeg ((i + 1)) + 1))) h).bind (fun (x2 : (Int32 × mm_H)) =>
if mm_isb ((i + 1)) (mh_I x2.2 360 0) = true then
(gX11_isExpired ((mh_I x2.2 360 (Int32.toNatClampNeg ((i + 1)) + 1))) x2.2).bind (fun (x5 : (Bool × mm_H)) =>
(gX11_thrown x5.2).bind (fun (x7 : Int32) =>
if x7 = x2.1 then
mm_jn (fun (_ : Unit) =>
j x5.2) (fun (j10 : Unit → Option (Bool × mm_H)) =>
if x2.1 = 0 then
if mm_ibd 0 1 = true then
mm_jn (fun (y13 : Int64) (y14 : Int64) =>
if (lg_cmp y14 y13) = 0 then
j10 ()
else
some (false, x5.2)) (fun (j15 : Int64 → Int64 → Option (Bool × mm_H)) =>
if x5.1 = true then
j15 1 ((mh_J x5.2 358 (Int32.toNatClampNeg (0))))
else
j15 0 ((mh_J x5.2 358 (Int32.toNatClampNeg (0))))) else none
else
j10 ())
else
some (false, x5.2))) else none) else none
theorem rL_c1463 (i : Int32) (j : mm_H → Option (Bool × mm_H)) (jp : ∀ h, mm_E2 mm_SQ mm_SQ mL_law 3496 [some (.ref 360), some (.ref 0), some (.ref 352), some (.ref 358), some (.ref 359), some (.int i), none, none, none] [] h (j h) lf_ze) (h : mm_H) : mm_E2 mm_SQ mm_SQ mL_law 1463 [some (.ref 360), some (.ref 0), some (.ref 352), some (.ref 358), some (.ref 359), some (.int i), none, none, none] [] h (gL_c1463 i j h) lf_ze := by
  unfold gL_c1463
  refine me_aload_n (pc' := 1464) (i := 1) dL_law_1463 rfl rfl rfl ?_
  refine me_aload_n (pc' := 1465) (i := 0) dL_law_1464 rfl rfl rfl ?_
  refine me_iload (pc' := 1467) (i := 5) dL_law_1465 rfl rfl ?_
  refine me_iconst (pc' := 1468) (v := 1) dL_law_1467 rfl kc_i1 ?_
  refine me_iadd (pc' := 1469) dL_law_1468 rfl ?_
  refine mm_guard (fun c1 => ?_)
  refine me_scld (pc' := 1470) dL_law_1469 rfl c1 ?_
  refine me_aload_n (pc' := 1471) (i := 3) dL_law_1470 rfl rfl rfl ?_
  refine me_callSX (As := [.ref 0, .int (mh_I h 360 (Int32.toNatClampNeg ((i + 1)) + 1)), .ref 358]) (st := []) (F' := mm_SQ) (G' := mm_SQ) (F'' := mm_SQ) (pc' := 1474) dL_law_1471 rfl mfL_isExpired rfl lx_271 ⟨Nat.le_of_ble_eq_true rfl, Nat.le_of_ble_eq_true rfl⟩ (Nat.le_of_ble_eq_true rfl) (fun z => z) (mm_RQ (fun t => rL_isExpired (q := (360, t)) ((mh_I h 360 (Int32.toNatClampNeg ((i + 1)) + 1))) h (Nat.le_of_ble_eq_true rfl))) (fun x2 e3 => Or.inl ⟨_, _, rfl, fun z => z, ?_⟩)
  show mm_E2 _ _ _ _ _ [.int x2.1] x2.2 _ _
  refine me_istore (pc' := 1476) (i := 6) (L' := [some (.ref 360), some (.ref 0), some (.ref 352), some (.ref 358), some (.ref 359), some (.int i), some (.int x2.1), none, none]) dL_law_1474 rfl (Nat.le_of_ble_eq_true rfl) (Nat.le_of_ble_eq_true rfl) rfl ?_
  refine me_aload_n (pc' := 1477) (i := 2) dL_law_1476 rfl rfl rfl ?_
  refine me_aload_n (pc' := 1478) (i := 0) dL_law_1477 rfl rfl rfl ?_
  refine me_iload (pc' := 1480) (i := 5) dL_law_1478 rfl rfl ?_
  refine me_iconst (pc' := 1481) (v := 1) dL_law_1480 rfl kc_i1 ?_
  refine me_iadd (pc' := 1482) dL_law_1481 rfl ?_
  refine mm_guard (fun c4 => ?_)
  refine me_scld (pc' := 1483) dL_law_1482 rfl c4 ?_
  refine me_callV (As := [.int (mh_I x2.2 360 (Int32.toNatClampNeg ((i + 1)) + 1))]) (st := []) (F' := mm_SQ) (G' := mm_SQ) (F'' := mm_SQ) (pc' := 1486) dL_law_1483 rfl mfX11_isExpired rfl lkL_273 kd_352 rfl (mm_ltQ kd_352) ⟨Nat.le_of_ble_eq_true rfl, Nat.le_of_ble_eq_true rfl⟩ (Nat.le_of_ble_eq_true rfl) (fun z => z) (mm_RQ (fun t => rX11_isExpired (q := (360, t)) ((mh_I x2.2 360 (Int32.toNatClampNeg ((i + 1)) + 1))) x2.2 (Nat.le_of_ble_eq_true rfl))) (fun x5 e6 => Or.inl ⟨_, _, rfl, fun z => z, ?_⟩)
  show mm_E2 _ _ _ _ _ [.int (mx_bi x5.1)] x5.2 _ _
  refine me_istore (pc' := 1488) (i := 7) (L' := [some (.ref 360), some (.ref 0), some (.ref 352), some (.ref 358), some (.ref 359), some (.int i), some (.int x2.1), some (.int (mx_bi x5.1)), none]) dL_law_1486 rfl (Nat.le_of_ble_eq_true rfl) (Nat.le_of_ble_eq_true rfl) rfl ?_
  refine me_aload_n (pc' := 1489) (i := 2) dL_law_1488 rfl rfl rfl ?_
  refine me_callV (As := []) (st := []) (F' := mm_SQ) (G' := mm_SQ) (F'' := mm_SQ) (pc' := 1492) dL_law_1489 rfl mfX11_thrown rfl lkL_186 kd_352 rfl (mm_ltQ kd_352) ⟨Nat.le_of_ble_eq_true rfl, Nat.le_of_ble_eq_true rfl⟩ (Nat.le_of_ble_eq_true rfl) (fun z => z) (mm_RQ (fun t => rX11_thrown (q := (360, t)) x5.2 (Nat.le_of_ble_eq_true rfl))) (fun x7 e8 => Or.inl ⟨_, _, rfl, fun z => z, ?_⟩)
  show mm_E2 _ _ _ _ _ [.int x7] x5.2 _ _
  refine me_iload (pc' := 1494) (i := 6) dL_law_1492 rfl rfl ?_
  refine me_icmp_eq (pc' := 1497) (tgt := 1499) dL_law_1494 (by decide) rfl (fun c9 => ?_) (fun c9 => ?_)
  · refine me_iload (pc' := 1501) (i := 6) dL_law_1499 rfl rfl ?_
    refine mm_jnI (fun (j109 : Unit → Option (Bool × mm_H)) => ∀ (_ : Unit), mm_E2 mm_SQ mm_SQ mL_law 1523 [some (.ref 360), some (.ref 0), some (.ref 352), some (.ref 358), some (.ref 359), some (.int i), none, none, none] [] x5.2 (j109 ()) lf_ze) ?_ (fun j10 j10p => ?_)
    · intro _
      refine me_goto (tgt := 3496) dL_law_1523 (by decide) ?_
      exact jp x5.2
    refine me_if_ne (pc' := 1504) (tgt := 1523) dL_law_1501 (by decide) rfl (fun c11 => ?_) (fun c11 => ?_)
    · exact mm_maskB [true, true, true, true, true, true, false, false, false] (j10p ())
    · refine me_aload_n (pc' := 1505) (i := 3) dL_law_1504 rfl rfl rfl ?_
      refine me_iconst (pc' := 1506) (v := 0) dL_law_1505 rfl kc_i0 ?_
      refine mm_guard (fun c12 => ?_)
      refine me_lald (pc' := 1507) dL_law_1506 rfl kd_358 (mm_ltQ kd_358) (mm_ibd_of c12) ?_
      refine me_iload (pc' := 1509) (i := 7) dL_law_1507 rfl rfl ?_
      refine mm_jnI (fun (j159 : Int64 → Int64 → Option (Bool × mm_H)) => ∀ (y13 : Int64) (y14 : Int64), mm_E2 mm_SQ mm_SQ mL_law 1517 [some (.ref 360), some (.ref 0), some (.ref 352), some (.ref 358), some (.ref 359), some (.int i), none, none, none] [.long y13, .long y14] x5.2 (j159 y13 y14) lf_ze) ?_ (fun j15 j15p => ?_)
      · intro y13 y14
        refine me_lcmp (pc' := 1518) dL_law_1517 rfl ?_
        refine me_if_eq (pc' := 1521) (tgt := 1523) dL_law_1518 (by decide) rfl (fun c16 => ?_) (fun c16 => ?_)
        · exact j10p ()
        · refine me_iconst (pc' := 1522) (v := 0) dL_law_1521 rfl kc_i0 ?_
          exact me_zret (b := false) dL_law_1522 rfl (fun z => z) rfl
      refine me_ifB_eq (pc' := 1512) (tgt := 1516) dL_law_1509 (by decide) rfl (fun c17 => ?_) (fun c17 => ?_)
      · refine me_lconst (pc' := 1517) (v := 0) dL_law_1516 rfl rfl ?_
        exact mm_maskB [true, true, true, true, true, true, false, false, false] (j15p 0 ((mh_J x5.2 358 (Int32.toNatClampNeg (0)))))
      · refine me_lconst (pc' := 1513) (v := 1) dL_law_1512 rfl rfl ?_
        refine me_goto (tgt := 1517) dL_law_1513 (by decide) ?_
        exact mm_maskB [true, true, true, true, true, true, false, false, false] (j15p 1 ((mh_J x5.2 358 (Int32.toNatClampNeg (0)))))
  · refine me_iconst (pc' := 1498) (v := 0) dL_law_1497 rfl kc_i0 ?_
    exact me_zret (b := false) dL_law_1498 rfl (fun z => z) rfl
def gL_c1526 (i : Int32) (j : mm_H → Option (Bool × mm_H)) (h : mm_H) : Option (Bool × mm_H) :=
if mm_isb ((i + 1)) (mh_I h 360 0) = true then
if mm_isb ((i + 2)) (mh_I h 360 0) = true then
(gL_issueOrder ((mh_I h 360 (Int32.toNatClampNeg ((i + 1)) + 1))) ((mh_I h 360 (Int32.toNatClampNeg ((i + 2)) + 1))) h).bind (fun (x3 : (Int32 × mm_H)) =>
if mm_isb ((i + 1)) (mh_I x3.2 360 0) = true then
if mm_isb ((i + 2)) (mh_I x3.2 360 0) = true then
(gX11_issueOrder ((mh_I x3.2 360 (Int32.toNatClampNeg ((i + 1)) + 1))) ((mh_I x3.2 360 (Int32.toNatClampNeg ((i + 2)) + 1))) x3.2).bind (fun (x7 : (Int32 × mm_H)) =>
(gX11_thrown x7.2).bind (fun (x9 : Int32) =>
if x9 = x3.1 then
mm_jn (fun (_ : Unit) =>
j x7.2) (fun (j12 : Unit → Option (Bool × mm_H)) =>
if x3.1 = 0 then
if mm_ibd 0 1 = true then
if (lg_cmp ((mh_J x7.2 358 (Int32.toNatClampNeg (0)))) ((x7.1).toInt64)) = 0 then
j12 ()
else
some (false, x7.2) else none
else
j12 ())
else
some (false, x7.2))) else none else none) else none else none
theorem rL_c1526 (i : Int32) (j : mm_H → Option (Bool × mm_H)) (jp : ∀ h, mm_E2 mm_SQ mm_SQ mL_law 3496 [some (.ref 360), some (.ref 0), some (.ref 352), some (.ref 358), some (.ref 359), some (.int i), none, none, none] [] h (j h) lf_ze) (h : mm_H) : mm_E2 mm_SQ mm_SQ mL_law 1526 [some (.ref 360), some (.ref 0), some (.ref 352), some (.ref 358), some (.ref 359), some (.int i), none, none, none] [] h (gL_c1526 i j h) lf_ze := by
  unfold gL_c1526
  refine me_aload_n (pc' := 1527) (i := 1) dL_law_1526 rfl rfl rfl ?_
  refine me_aload_n (pc' := 1528) (i := 0) dL_law_1527 rfl rfl rfl ?_
  refine me_iload (pc' := 1530) (i := 5) dL_law_1528 rfl rfl ?_
  refine me_iconst (pc' := 1531) (v := 1) dL_law_1530 rfl kc_i1 ?_
  refine me_iadd (pc' := 1532) dL_law_1531 rfl ?_
  refine mm_guard (fun c1 => ?_)
  refine me_scld (pc' := 1533) dL_law_1532 rfl c1 ?_
  refine me_aload_n (pc' := 1534) (i := 0) dL_law_1533 rfl rfl rfl ?_
  refine me_iload (pc' := 1536) (i := 5) dL_law_1534 rfl rfl ?_
  refine me_iconst (pc' := 1537) (v := 2) dL_law_1536 rfl kc_i2 ?_
  refine me_iadd (pc' := 1538) dL_law_1537 rfl ?_
  refine mm_guard (fun c2 => ?_)
  refine me_scld (pc' := 1539) dL_law_1538 rfl c2 ?_
  refine me_aload_n (pc' := 1540) (i := 3) dL_law_1539 rfl rfl rfl ?_
  refine me_callSX (As := [.ref 0, .int (mh_I h 360 (Int32.toNatClampNeg ((i + 1)) + 1)), .int (mh_I h 360 (Int32.toNatClampNeg ((i + 2)) + 1)), .ref 358]) (st := []) (F' := mm_SQ) (G' := mm_SQ) (F'' := mm_SQ) (pc' := 1543) dL_law_1540 rfl mfL_issueOrder rfl lx_274 ⟨Nat.le_of_ble_eq_true rfl, Nat.le_of_ble_eq_true rfl⟩ (Nat.le_of_ble_eq_true rfl) (fun z => z) (mm_RQ (fun t => rL_issueOrder (q := (360, t)) ((mh_I h 360 (Int32.toNatClampNeg ((i + 1)) + 1))) ((mh_I h 360 (Int32.toNatClampNeg ((i + 2)) + 1))) h (Nat.le_of_ble_eq_true rfl))) (fun x3 e4 => Or.inl ⟨_, _, rfl, fun z => z, ?_⟩)
  show mm_E2 _ _ _ _ _ [.int x3.1] x3.2 _ _
  refine me_istore (pc' := 1545) (i := 6) (L' := [some (.ref 360), some (.ref 0), some (.ref 352), some (.ref 358), some (.ref 359), some (.int i), some (.int x3.1), none, none]) dL_law_1543 rfl (Nat.le_of_ble_eq_true rfl) (Nat.le_of_ble_eq_true rfl) rfl ?_
  refine me_aload_n (pc' := 1546) (i := 2) dL_law_1545 rfl rfl rfl ?_
  refine me_aload_n (pc' := 1547) (i := 0) dL_law_1546 rfl rfl rfl ?_
  refine me_iload (pc' := 1549) (i := 5) dL_law_1547 rfl rfl ?_
  refine me_iconst (pc' := 1550) (v := 1) dL_law_1549 rfl kc_i1 ?_
  refine me_iadd (pc' := 1551) dL_law_1550 rfl ?_
  refine mm_guard (fun c5 => ?_)
  refine me_scld (pc' := 1552) dL_law_1551 rfl c5 ?_
  refine me_aload_n (pc' := 1553) (i := 0) dL_law_1552 rfl rfl rfl ?_
  refine me_iload (pc' := 1555) (i := 5) dL_law_1553 rfl rfl ?_
  refine me_iconst (pc' := 1556) (v := 2) dL_law_1555 rfl kc_i2 ?_
  refine me_iadd (pc' := 1557) dL_law_1556 rfl ?_
  refine mm_guard (fun c6 => ?_)
  refine me_scld (pc' := 1558) dL_law_1557 rfl c6 ?_
  refine me_callV (As := [.int (mh_I x3.2 360 (Int32.toNatClampNeg ((i + 1)) + 1)), .int (mh_I x3.2 360 (Int32.toNatClampNeg ((i + 2)) + 1))]) (st := []) (F' := mm_SQ) (G' := mm_SQ) (F'' := mm_SQ) (pc' := 1561) dL_law_1558 rfl mfX11_issueOrder rfl lkL_276 kd_352 rfl (mm_ltQ kd_352) ⟨Nat.le_of_ble_eq_true rfl, Nat.le_of_ble_eq_true rfl⟩ (Nat.le_of_ble_eq_true rfl) (fun z => z) (mm_RQ (fun t => rX11_issueOrder (q := (360, t)) ((mh_I x3.2 360 (Int32.toNatClampNeg ((i + 1)) + 1))) ((mh_I x3.2 360 (Int32.toNatClampNeg ((i + 2)) + 1))) x3.2 (Nat.le_of_ble_eq_true rfl))) (fun x7 e8 => Or.inl ⟨_, _, rfl, fun z => z, ?_⟩)
  show mm_E2 _ _ _ _ _ [.int x7.1] x7.2 _ _
  refine me_istore (pc' := 1563) (i := 7) (L' := [some (.ref 360), some (.ref 0), some (.ref 352), some (.ref 358), some (.ref 359), some (.int i), some (.int x3.1), some (.int x7.1), none]) dL_law_1561 rfl (Nat.le_of_ble_eq_true rfl) (Nat.le_of_ble_eq_true rfl) rfl ?_
  refine me_aload_n (pc' := 1564) (i := 2) dL_law_1563 rfl rfl rfl ?_
  refine me_callV (As := []) (st := []) (F' := mm_SQ) (G' := mm_SQ) (F'' := mm_SQ) (pc' := 1567) dL_law_1564 rfl mfX11_thrown rfl lkL_186 kd_352 rfl (mm_ltQ kd_352) ⟨Nat.le_of_ble_eq_true rfl, Nat.le_of_ble_eq_true rfl⟩ (Nat.le_of_ble_eq_true rfl) (fun z => z) (mm_RQ (fun t => rX11_thrown (q := (360, t)) x7.2 (Nat.le_of_ble_eq_true rfl))) (fun x9 e10 => Or.inl ⟨_, _, rfl, fun z => z, ?_⟩)
  show mm_E2 _ _ _ _ _ [.int x9] x7.2 _ _
  refine me_iload (pc' := 1569) (i := 6) dL_law_1567 rfl rfl ?_
  refine me_icmp_eq (pc' := 1572) (tgt := 1574) dL_law_1569 (by decide) rfl (fun c11 => ?_) (fun c11 => ?_)
  · refine me_iload (pc' := 1576) (i := 6) dL_law_1574 rfl rfl ?_
    refine mm_jnI (fun (j129 : Unit → Option (Bool × mm_H)) => ∀ (_ : Unit), mm_E2 mm_SQ mm_SQ mL_law 1591 [some (.ref 360), some (.ref 0), some (.ref 352), some (.ref 358), some (.ref 359), some (.int i), none, none, none] [] x7.2 (j129 ()) lf_ze) ?_ (fun j12 j12p => ?_)
    · intro _
      refine me_goto (tgt := 3496) dL_law_1591 (by decide) ?_
      exact jp x7.2
    refine me_if_ne (pc' := 1579) (tgt := 1591) dL_law_1576 (by decide) rfl (fun c13 => ?_) (fun c13 => ?_)
    · exact mm_maskB [true, true, true, true, true, true, false, false, false] (j12p ())
    · refine me_aload_n (pc' := 1580) (i := 3) dL_law_1579 rfl rfl rfl ?_
      refine me_iconst (pc' := 1581) (v := 0) dL_law_1580 rfl kc_i0 ?_
      refine mm_guard (fun c14 => ?_)
      refine me_lald (pc' := 1582) dL_law_1581 rfl kd_358 (mm_ltQ kd_358) (mm_ibd_of c14) ?_
      refine me_iload (pc' := 1584) (i := 7) dL_law_1582 rfl rfl ?_
      refine me_i2l (pc' := 1585) dL_law_1584 rfl ?_
      refine me_lcmp (pc' := 1586) dL_law_1585 rfl ?_
      refine me_if_eq (pc' := 1589) (tgt := 1591) dL_law_1586 (by decide) rfl (fun c15 => ?_) (fun c15 => ?_)
      · exact mm_maskB [true, true, true, true, true, true, false, false, false] (j12p ())
      · refine me_iconst (pc' := 1590) (v := 0) dL_law_1589 rfl kc_i0 ?_
        exact me_zret (b := false) dL_law_1590 rfl (fun z => z) rfl
  · refine me_iconst (pc' := 1573) (v := 0) dL_law_1572 rfl kc_i0 ?_
    exact me_zret (b := false) dL_law_1573 rfl (fun z => z) rfl
def gL_c1594 (i : Int32) (j : mm_H → Option (Bool × mm_H)) (h : mm_H) : Option (Bool × mm_H) :=
if mm_isb ((i + 1)) (mh_I h 360 0) = true then
if mm_isb ((i + 2)) (mh_I h 360 0) = true then
(gL_costOfIssue ((mh_I h 360 (Int32.toNatClampNeg ((i + 1)) + 1))) ((mh_I h 360 (Int32.toNatClampNeg ((i + 2)) + 1))) h).bind (fun (x3 : (Int32 × mm_H)) =>
if mm_isb ((i + 1)) (mh_I x3.2 360 0) = true then
if mm_isb ((i + 2)) (mh_I x3.2 360 0) = true then
(gX11_costOfIssue ((mh_I x3.2 360 (Int32.toNatClampNeg ((i + 1)) + 1))) ((mh_I x3.2 360 (Int32.toNatClampNeg ((i + 2)) + 1))) x3.2).bind (fun (x7 : (Int32 × mm_H)) =>
(gX11_thrown x7.2).bind (fun (x9 : Int32) =>
if x9 = x3.1 then
mm_jn (fun (_ : Unit) =>
j x7.2) (fun (j12 : Unit → Option (Bool × mm_H)) =>
if x3.1 = 0 then
if mm_ibd 0 1 = true then
if (lg_cmp ((mh_J x7.2 358 (Int32.toNatClampNeg (0)))) ((x7.1).toInt64)) = 0 then
j12 ()
else
some (false, x7.2) else none
else
j12 ())
else
some (false, x7.2))) else none else none) else none else none
theorem rL_c1594 (i : Int32) (j : mm_H → Option (Bool × mm_H)) (jp : ∀ h, mm_E2 mm_SQ mm_SQ mL_law 3496 [some (.ref 360), some (.ref 0), some (.ref 352), some (.ref 358), some (.ref 359), some (.int i), none, none, none] [] h (j h) lf_ze) (h : mm_H) : mm_E2 mm_SQ mm_SQ mL_law 1594 [some (.ref 360), some (.ref 0), some (.ref 352), some (.ref 358), some (.ref 359), some (.int i), none, none, none] [] h (gL_c1594 i j h) lf_ze := by
  unfold gL_c1594
  refine me_aload_n (pc' := 1595) (i := 1) dL_law_1594 rfl rfl rfl ?_
  refine me_aload_n (pc' := 1596) (i := 0) dL_law_1595 rfl rfl rfl ?_
  refine me_iload (pc' := 1598) (i := 5) dL_law_1596 rfl rfl ?_
  refine me_iconst (pc' := 1599) (v := 1) dL_law_1598 rfl kc_i1 ?_
  refine me_iadd (pc' := 1600) dL_law_1599 rfl ?_
  refine mm_guard (fun c1 => ?_)
  refine me_scld (pc' := 1601) dL_law_1600 rfl c1 ?_
  refine me_aload_n (pc' := 1602) (i := 0) dL_law_1601 rfl rfl rfl ?_
  refine me_iload (pc' := 1604) (i := 5) dL_law_1602 rfl rfl ?_
  refine me_iconst (pc' := 1605) (v := 2) dL_law_1604 rfl kc_i2 ?_
  refine me_iadd (pc' := 1606) dL_law_1605 rfl ?_
  refine mm_guard (fun c2 => ?_)
  refine me_scld (pc' := 1607) dL_law_1606 rfl c2 ?_
  refine me_aload_n (pc' := 1608) (i := 3) dL_law_1607 rfl rfl rfl ?_
  refine me_callSX (As := [.ref 0, .int (mh_I h 360 (Int32.toNatClampNeg ((i + 1)) + 1)), .int (mh_I h 360 (Int32.toNatClampNeg ((i + 2)) + 1)), .ref 358]) (st := []) (F' := mm_SQ) (G' := mm_SQ) (F'' := mm_SQ) (pc' := 1611) dL_law_1608 rfl mfL_costOfIssue rfl lx_277 ⟨Nat.le_of_ble_eq_true rfl, Nat.le_of_ble_eq_true rfl⟩ (Nat.le_of_ble_eq_true rfl) (fun z => z) (mm_RQ (fun t => rL_costOfIssue (q := (360, t)) ((mh_I h 360 (Int32.toNatClampNeg ((i + 1)) + 1))) ((mh_I h 360 (Int32.toNatClampNeg ((i + 2)) + 1))) h (Nat.le_of_ble_eq_true rfl))) (fun x3 e4 => Or.inl ⟨_, _, rfl, fun z => z, ?_⟩)
  show mm_E2 _ _ _ _ _ [.int x3.1] x3.2 _ _
  refine me_istore (pc' := 1613) (i := 6) (L' := [some (.ref 360), some (.ref 0), some (.ref 352), some (.ref 358), some (.ref 359), some (.int i), some (.int x3.1), none, none]) dL_law_1611 rfl (Nat.le_of_ble_eq_true rfl) (Nat.le_of_ble_eq_true rfl) rfl ?_
  refine me_aload_n (pc' := 1614) (i := 2) dL_law_1613 rfl rfl rfl ?_
  refine me_aload_n (pc' := 1615) (i := 0) dL_law_1614 rfl rfl rfl ?_
  refine me_iload (pc' := 1617) (i := 5) dL_law_1615 rfl rfl ?_
  refine me_iconst (pc' := 1618) (v := 1) dL_law_1617 rfl kc_i1 ?_
  refine me_iadd (pc' := 1619) dL_law_1618 rfl ?_
  refine mm_guard (fun c5 => ?_)
  refine me_scld (pc' := 1620) dL_law_1619 rfl c5 ?_
  refine me_aload_n (pc' := 1621) (i := 0) dL_law_1620 rfl rfl rfl ?_
  refine me_iload (pc' := 1623) (i := 5) dL_law_1621 rfl rfl ?_
  refine me_iconst (pc' := 1624) (v := 2) dL_law_1623 rfl kc_i2 ?_
  refine me_iadd (pc' := 1625) dL_law_1624 rfl ?_
  refine mm_guard (fun c6 => ?_)
  refine me_scld (pc' := 1626) dL_law_1625 rfl c6 ?_
  refine me_callV (As := [.int (mh_I x3.2 360 (Int32.toNatClampNeg ((i + 1)) + 1)), .int (mh_I x3.2 360 (Int32.toNatClampNeg ((i + 2)) + 1))]) (st := []) (F' := mm_SQ) (G' := mm_SQ) (F'' := mm_SQ) (pc' := 1629) dL_law_1626 rfl mfX11_costOfIssue rfl lkL_279 kd_352 rfl (mm_ltQ kd_352) ⟨Nat.le_of_ble_eq_true rfl, Nat.le_of_ble_eq_true rfl⟩ (Nat.le_of_ble_eq_true rfl) (fun z => z) (mm_RQ (fun t => rX11_costOfIssue (q := (360, t)) ((mh_I x3.2 360 (Int32.toNatClampNeg ((i + 1)) + 1))) ((mh_I x3.2 360 (Int32.toNatClampNeg ((i + 2)) + 1))) x3.2 (Nat.le_of_ble_eq_true rfl))) (fun x7 e8 => Or.inl ⟨_, _, rfl, fun z => z, ?_⟩)
  show mm_E2 _ _ _ _ _ [.int x7.1] x7.2 _ _
  refine me_istore (pc' := 1631) (i := 7) (L' := [some (.ref 360), some (.ref 0), some (.ref 352), some (.ref 358), some (.ref 359), some (.int i), some (.int x3.1), some (.int x7.1), none]) dL_law_1629 rfl (Nat.le_of_ble_eq_true rfl) (Nat.le_of_ble_eq_true rfl) rfl ?_
  refine me_aload_n (pc' := 1632) (i := 2) dL_law_1631 rfl rfl rfl ?_
  refine me_callV (As := []) (st := []) (F' := mm_SQ) (G' := mm_SQ) (F'' := mm_SQ) (pc' := 1635) dL_law_1632 rfl mfX11_thrown rfl lkL_186 kd_352 rfl (mm_ltQ kd_352) ⟨Nat.le_of_ble_eq_true rfl, Nat.le_of_ble_eq_true rfl⟩ (Nat.le_of_ble_eq_true rfl) (fun z => z) (mm_RQ (fun t => rX11_thrown (q := (360, t)) x7.2 (Nat.le_of_ble_eq_true rfl))) (fun x9 e10 => Or.inl ⟨_, _, rfl, fun z => z, ?_⟩)
  show mm_E2 _ _ _ _ _ [.int x9] x7.2 _ _
  refine me_iload (pc' := 1637) (i := 6) dL_law_1635 rfl rfl ?_
  refine me_icmp_eq (pc' := 1640) (tgt := 1642) dL_law_1637 (by decide) rfl (fun c11 => ?_) (fun c11 => ?_)
  · refine me_iload (pc' := 1644) (i := 6) dL_law_1642 rfl rfl ?_
    refine mm_jnI (fun (j129 : Unit → Option (Bool × mm_H)) => ∀ (_ : Unit), mm_E2 mm_SQ mm_SQ mL_law 1659 [some (.ref 360), some (.ref 0), some (.ref 352), some (.ref 358), some (.ref 359), some (.int i), none, none, none] [] x7.2 (j129 ()) lf_ze) ?_ (fun j12 j12p => ?_)
    · intro _
      refine me_goto (tgt := 3496) dL_law_1659 (by decide) ?_
      exact jp x7.2
    refine me_if_ne (pc' := 1647) (tgt := 1659) dL_law_1644 (by decide) rfl (fun c13 => ?_) (fun c13 => ?_)
    · exact mm_maskB [true, true, true, true, true, true, false, false, false] (j12p ())
    · refine me_aload_n (pc' := 1648) (i := 3) dL_law_1647 rfl rfl rfl ?_
      refine me_iconst (pc' := 1649) (v := 0) dL_law_1648 rfl kc_i0 ?_
      refine mm_guard (fun c14 => ?_)
      refine me_lald (pc' := 1650) dL_law_1649 rfl kd_358 (mm_ltQ kd_358) (mm_ibd_of c14) ?_
      refine me_iload (pc' := 1652) (i := 7) dL_law_1650 rfl rfl ?_
      refine me_i2l (pc' := 1653) dL_law_1652 rfl ?_
      refine me_lcmp (pc' := 1654) dL_law_1653 rfl ?_
      refine me_if_eq (pc' := 1657) (tgt := 1659) dL_law_1654 (by decide) rfl (fun c15 => ?_) (fun c15 => ?_)
      · exact mm_maskB [true, true, true, true, true, true, false, false, false] (j12p ())
      · refine me_iconst (pc' := 1658) (v := 0) dL_law_1657 rfl kc_i0 ?_
        exact me_zret (b := false) dL_law_1658 rfl (fun z => z) rfl
  · refine me_iconst (pc' := 1641) (v := 0) dL_law_1640 rfl kc_i0 ?_
    exact me_zret (b := false) dL_law_1641 rfl (fun z => z) rfl
def gL_c1662 (i : Int32) (j : mm_H → Option (Bool × mm_H)) (h : mm_H) : Option (Bool × mm_H) :=
(gX10_reservationCount h).bind (fun (x1 : Int32) =>
(gX11_reservationCount h).bind (fun (x3 : (Int32 × mm_H)) =>
if x1 = x3.1 then
j x3.2
else
some (false, x3.2)))
theorem rL_c1662 (i : Int32) (j : mm_H → Option (Bool × mm_H)) (jp : ∀ h, mm_E2 mm_SQ mm_SQ mL_law 3496 [some (.ref 360), some (.ref 0), some (.ref 352), some (.ref 358), some (.ref 359), some (.int i), none, none, none] [] h (j h) lf_ze) (h : mm_H) : mm_E2 mm_SQ mm_SQ mL_law 1662 [some (.ref 360), some (.ref 0), some (.ref 352), some (.ref 358), some (.ref 359), some (.int i), none, none, none] [] h (gL_c1662 i j h) lf_ze := by
  unfold gL_c1662
  refine me_aload_n (pc' := 1663) (i := 1) dL_law_1662 rfl rfl rfl ?_
  refine me_callV (As := []) (st := []) (F' := mm_SQ) (G' := mm_SQ) (F'' := mm_SQ) (pc' := 1666) dL_law_1663 rfl mfX10_reservationCount rfl lkL_280 kd_0 rfl (mm_ltQ kd_0) ⟨Nat.le_of_ble_eq_true rfl, Nat.le_of_ble_eq_true rfl⟩ (Nat.le_of_ble_eq_true rfl) (fun z => z) (mm_RQ (fun t => rX10_reservationCount (q := (360, t)) h )) (fun x1 e2 => Or.inl ⟨_, _, rfl, fun z => z, ?_⟩)
  show mm_E2 _ _ _ _ _ [.int x1] h _ _
  refine me_aload_n (pc' := 1667) (i := 2) dL_law_1666 rfl rfl rfl ?_
  refine me_callV (As := []) (st := [.int x1]) (F' := mm_SQ) (G' := mm_SQ) (F'' := mm_SQ) (pc' := 1670) dL_law_1667 rfl mfX11_reservationCount rfl lkL_283 kd_352 rfl (mm_ltQ kd_352) ⟨Nat.le_of_ble_eq_true rfl, Nat.le_of_ble_eq_true rfl⟩ (Nat.le_of_ble_eq_true rfl) (fun z => z) (mm_RQ (fun t => rX11_reservationCount (q := (360, t)) h (Nat.le_of_ble_eq_true rfl))) (fun x3 e4 => Or.inl ⟨_, _, rfl, fun z => z, ?_⟩)
  show mm_E2 _ _ _ _ _ [.int x3.1, .int x1] x3.2 _ _
  refine me_icmp_eq (pc' := 1673) (tgt := 3496) dL_law_1670 (by decide) rfl (fun c5 => ?_) (fun c5 => ?_)
  · exact jp x3.2
  · refine me_iconst (pc' := 1674) (v := 0) dL_law_1673 rfl kc_i0 ?_
    exact me_zret (b := false) dL_law_1674 rfl (fun z => z) rfl
def gL_c1675 (i : Int32) (j : mm_H → Option (Bool × mm_H)) (h : mm_H) : Option (Bool × mm_H) :=
if mm_isb ((i + 1)) (mh_I h 360 0) = true then
(gL_reservedProduct ((mh_I h 360 (Int32.toNatClampNeg ((i + 1)) + 1))) h).bind (fun (x2 : (Int32 × mm_H)) =>
if mm_isb ((i + 1)) (mh_I x2.2 360 0) = true then
(gX11_reservedProduct ((mh_I x2.2 360 (Int32.toNatClampNeg ((i + 1)) + 1))) x2.2).bind (fun (x5 : (Int32 × mm_H)) =>
(gX11_thrown x5.2).bind (fun (x7 : Int32) =>
if x7 = x2.1 then
mm_jn (fun (_ : Unit) =>
j x5.2) (fun (j10 : Unit → Option (Bool × mm_H)) =>
if x2.1 = 0 then
if mm_ibd 0 1 = true then
if (lg_cmp ((mh_J x5.2 358 (Int32.toNatClampNeg (0)))) ((x5.1).toInt64)) = 0 then
j10 ()
else
some (false, x5.2) else none
else
j10 ())
else
some (false, x5.2))) else none) else none
theorem rL_c1675 (i : Int32) (j : mm_H → Option (Bool × mm_H)) (jp : ∀ h, mm_E2 mm_SQ mm_SQ mL_law 3496 [some (.ref 360), some (.ref 0), some (.ref 352), some (.ref 358), some (.ref 359), some (.int i), none, none, none] [] h (j h) lf_ze) (h : mm_H) : mm_E2 mm_SQ mm_SQ mL_law 1675 [some (.ref 360), some (.ref 0), some (.ref 352), some (.ref 358), some (.ref 359), some (.int i), none, none, none] [] h (gL_c1675 i j h) lf_ze := by
  unfold gL_c1675
  refine me_aload_n (pc' := 1676) (i := 1) dL_law_1675 rfl rfl rfl ?_
  refine me_aload_n (pc' := 1677) (i := 0) dL_law_1676 rfl rfl rfl ?_
  refine me_iload (pc' := 1679) (i := 5) dL_law_1677 rfl rfl ?_
  refine me_iconst (pc' := 1680) (v := 1) dL_law_1679 rfl kc_i1 ?_
  refine me_iadd (pc' := 1681) dL_law_1680 rfl ?_
  refine mm_guard (fun c1 => ?_)
  refine me_scld (pc' := 1682) dL_law_1681 rfl c1 ?_
  refine me_aload_n (pc' := 1683) (i := 3) dL_law_1682 rfl rfl rfl ?_
  refine me_callSX (As := [.ref 0, .int (mh_I h 360 (Int32.toNatClampNeg ((i + 1)) + 1)), .ref 358]) (st := []) (F' := mm_SQ) (G' := mm_SQ) (F'' := mm_SQ) (pc' := 1686) dL_law_1683 rfl mfL_reservedProduct rfl lx_284 ⟨Nat.le_of_ble_eq_true rfl, Nat.le_of_ble_eq_true rfl⟩ (Nat.le_of_ble_eq_true rfl) (fun z => z) (mm_RQ (fun t => rL_reservedProduct (q := (360, t)) ((mh_I h 360 (Int32.toNatClampNeg ((i + 1)) + 1))) h (Nat.le_of_ble_eq_true rfl))) (fun x2 e3 => Or.inl ⟨_, _, rfl, fun z => z, ?_⟩)
  show mm_E2 _ _ _ _ _ [.int x2.1] x2.2 _ _
  refine me_istore (pc' := 1688) (i := 6) (L' := [some (.ref 360), some (.ref 0), some (.ref 352), some (.ref 358), some (.ref 359), some (.int i), some (.int x2.1), none, none]) dL_law_1686 rfl (Nat.le_of_ble_eq_true rfl) (Nat.le_of_ble_eq_true rfl) rfl ?_
  refine me_aload_n (pc' := 1689) (i := 2) dL_law_1688 rfl rfl rfl ?_
  refine me_aload_n (pc' := 1690) (i := 0) dL_law_1689 rfl rfl rfl ?_
  refine me_iload (pc' := 1692) (i := 5) dL_law_1690 rfl rfl ?_
  refine me_iconst (pc' := 1693) (v := 1) dL_law_1692 rfl kc_i1 ?_
  refine me_iadd (pc' := 1694) dL_law_1693 rfl ?_
  refine mm_guard (fun c4 => ?_)
  refine me_scld (pc' := 1695) dL_law_1694 rfl c4 ?_
  refine me_callV (As := [.int (mh_I x2.2 360 (Int32.toNatClampNeg ((i + 1)) + 1))]) (st := []) (F' := mm_SQ) (G' := mm_SQ) (F'' := mm_SQ) (pc' := 1698) dL_law_1695 rfl mfX11_reservedProduct rfl lkL_286 kd_352 rfl (mm_ltQ kd_352) ⟨Nat.le_of_ble_eq_true rfl, Nat.le_of_ble_eq_true rfl⟩ (Nat.le_of_ble_eq_true rfl) (fun z => z) (mm_RQ (fun t => rX11_reservedProduct (q := (360, t)) ((mh_I x2.2 360 (Int32.toNatClampNeg ((i + 1)) + 1))) x2.2 (Nat.le_of_ble_eq_true rfl))) (fun x5 e6 => Or.inl ⟨_, _, rfl, fun z => z, ?_⟩)
  show mm_E2 _ _ _ _ _ [.int x5.1] x5.2 _ _
  refine me_istore (pc' := 1700) (i := 7) (L' := [some (.ref 360), some (.ref 0), some (.ref 352), some (.ref 358), some (.ref 359), some (.int i), some (.int x2.1), some (.int x5.1), none]) dL_law_1698 rfl (Nat.le_of_ble_eq_true rfl) (Nat.le_of_ble_eq_true rfl) rfl ?_
  refine me_aload_n (pc' := 1701) (i := 2) dL_law_1700 rfl rfl rfl ?_
  refine me_callV (As := []) (st := []) (F' := mm_SQ) (G' := mm_SQ) (F'' := mm_SQ) (pc' := 1704) dL_law_1701 rfl mfX11_thrown rfl lkL_186 kd_352 rfl (mm_ltQ kd_352) ⟨Nat.le_of_ble_eq_true rfl, Nat.le_of_ble_eq_true rfl⟩ (Nat.le_of_ble_eq_true rfl) (fun z => z) (mm_RQ (fun t => rX11_thrown (q := (360, t)) x5.2 (Nat.le_of_ble_eq_true rfl))) (fun x7 e8 => Or.inl ⟨_, _, rfl, fun z => z, ?_⟩)
  show mm_E2 _ _ _ _ _ [.int x7] x5.2 _ _
  refine me_iload (pc' := 1706) (i := 6) dL_law_1704 rfl rfl ?_
  refine me_icmp_eq (pc' := 1709) (tgt := 1711) dL_law_1706 (by decide) rfl (fun c9 => ?_) (fun c9 => ?_)
  · refine me_iload (pc' := 1713) (i := 6) dL_law_1711 rfl rfl ?_
    refine mm_jnI (fun (j109 : Unit → Option (Bool × mm_H)) => ∀ (_ : Unit), mm_E2 mm_SQ mm_SQ mL_law 1728 [some (.ref 360), some (.ref 0), some (.ref 352), some (.ref 358), some (.ref 359), some (.int i), none, none, none] [] x5.2 (j109 ()) lf_ze) ?_ (fun j10 j10p => ?_)
    · intro _
      refine me_goto (tgt := 3496) dL_law_1728 (by decide) ?_
      exact jp x5.2
    refine me_if_ne (pc' := 1716) (tgt := 1728) dL_law_1713 (by decide) rfl (fun c11 => ?_) (fun c11 => ?_)
    · exact mm_maskB [true, true, true, true, true, true, false, false, false] (j10p ())
    · refine me_aload_n (pc' := 1717) (i := 3) dL_law_1716 rfl rfl rfl ?_
      refine me_iconst (pc' := 1718) (v := 0) dL_law_1717 rfl kc_i0 ?_
      refine mm_guard (fun c12 => ?_)
      refine me_lald (pc' := 1719) dL_law_1718 rfl kd_358 (mm_ltQ kd_358) (mm_ibd_of c12) ?_
      refine me_iload (pc' := 1721) (i := 7) dL_law_1719 rfl rfl ?_
      refine me_i2l (pc' := 1722) dL_law_1721 rfl ?_
      refine me_lcmp (pc' := 1723) dL_law_1722 rfl ?_
      refine me_if_eq (pc' := 1726) (tgt := 1728) dL_law_1723 (by decide) rfl (fun c13 => ?_) (fun c13 => ?_)
      · exact mm_maskB [true, true, true, true, true, true, false, false, false] (j10p ())
      · refine me_iconst (pc' := 1727) (v := 0) dL_law_1726 rfl kc_i0 ?_
        exact me_zret (b := false) dL_law_1727 rfl (fun z => z) rfl
  · refine me_iconst (pc' := 1710) (v := 0) dL_law_1709 rfl kc_i0 ?_
    exact me_zret (b := false) dL_law_1710 rfl (fun z => z) rfl
def gL_c1731 (i : Int32) (j : mm_H → Option (Bool × mm_H)) (h : mm_H) : Option (Bool × mm_H) :=
if mm_isb ((i + 1)) (mh_I h 360 0) = true then
(gL_reservedQuantity ((mh_I h 360 (Int32.toNatClampNeg ((i + 1)) + 1))) h).bind (fun (x2 : (Int32 × mm_H)) =>
if mm_isb ((i + 1)) (mh_I x2.2 360 0) = true then
(gX11_reservedQuantity ((mh_I x2.2 360 (Int32.toNatClampNeg ((i + 1)) + 1))) x2.2).bind (fun (x5 : (Int32 × mm_H)) =>
(gX11_thrown x5.2).bind (fun (x7 : Int32) =>
if x7 = x2.1 then
mm_jn (fun (_ : Unit) =>
j x5.2) (fun (j10 : Unit → Option (Bool × mm_H)) =>
if x2.1 = 0 then
if mm_ibd 0 1 = true then
if (lg_cmp ((mh_J x5.2 358 (Int32.toNatClampNeg (0)))) ((x5.1).toInt64)) = 0 then
j10 ()
else
some (false, x5.2) else none
else
j10 ())
else
some (false, x5.2))) else none) else none
theorem rL_c1731 (i : Int32) (j : mm_H → Option (Bool × mm_H)) (jp : ∀ h, mm_E2 mm_SQ mm_SQ mL_law 3496 [some (.ref 360), some (.ref 0), some (.ref 352), some (.ref 358), some (.ref 359), some (.int i), none, none, none] [] h (j h) lf_ze) (h : mm_H) : mm_E2 mm_SQ mm_SQ mL_law 1731 [some (.ref 360), some (.ref 0), some (.ref 352), some (.ref 358), some (.ref 359), some (.int i), none, none, none] [] h (gL_c1731 i j h) lf_ze := by
  unfold gL_c1731
  refine me_aload_n (pc' := 1732) (i := 1) dL_law_1731 rfl rfl rfl ?_
  refine me_aload_n (pc' := 1733) (i := 0) dL_law_1732 rfl rfl rfl ?_
  refine me_iload (pc' := 1735) (i := 5) dL_law_1733 rfl rfl ?_
  refine me_iconst (pc' := 1736) (v := 1) dL_law_1735 rfl kc_i1 ?_
  refine me_iadd (pc' := 1737) dL_law_1736 rfl ?_
  refine mm_guard (fun c1 => ?_)
  refine me_scld (pc' := 1738) dL_law_1737 rfl c1 ?_
  refine me_aload_n (pc' := 1739) (i := 3) dL_law_1738 rfl rfl rfl ?_
  refine me_callSX (As := [.ref 0, .int (mh_I h 360 (Int32.toNatClampNeg ((i + 1)) + 1)), .ref 358]) (st := []) (F' := mm_SQ) (G' := mm_SQ) (F'' := mm_SQ) (pc' := 1742) dL_law_1739 rfl mfL_reservedQuantity rfl lx_287 ⟨Nat.le_of_ble_eq_true rfl, Nat.le_of_ble_eq_true rfl⟩ (Nat.le_of_ble_eq_true rfl) (fun z => z) (mm_RQ (fun t => rL_reservedQuantity (q := (360, t)) ((mh_I h 360 (Int32.toNatClampNeg ((i + 1)) + 1))) h (Nat.le_of_ble_eq_true rfl))) (fun x2 e3 => Or.inl ⟨_, _, rfl, fun z => z, ?_⟩)
  show mm_E2 _ _ _ _ _ [.int x2.1] x2.2 _ _
  refine me_istore (pc' := 1744) (i := 6) (L' := [some (.ref 360), some (.ref 0), some (.ref 352), some (.ref 358), some (.ref 359), some (.int i), some (.int x2.1), none, none]) dL_law_1742 rfl (Nat.le_of_ble_eq_true rfl) (Nat.le_of_ble_eq_true rfl) rfl ?_
  refine me_aload_n (pc' := 1745) (i := 2) dL_law_1744 rfl rfl rfl ?_
  refine me_aload_n (pc' := 1746) (i := 0) dL_law_1745 rfl rfl rfl ?_
  refine me_iload (pc' := 1748) (i := 5) dL_law_1746 rfl rfl ?_
  refine me_iconst (pc' := 1749) (v := 1) dL_law_1748 rfl kc_i1 ?_
  refine me_iadd (pc' := 1750) dL_law_1749 rfl ?_
  refine mm_guard (fun c4 => ?_)
  refine me_scld (pc' := 1751) dL_law_1750 rfl c4 ?_
  refine me_callV (As := [.int (mh_I x2.2 360 (Int32.toNatClampNeg ((i + 1)) + 1))]) (st := []) (F' := mm_SQ) (G' := mm_SQ) (F'' := mm_SQ) (pc' := 1754) dL_law_1751 rfl mfX11_reservedQuantity rfl lkL_289 kd_352 rfl (mm_ltQ kd_352) ⟨Nat.le_of_ble_eq_true rfl, Nat.le_of_ble_eq_true rfl⟩ (Nat.le_of_ble_eq_true rfl) (fun z => z) (mm_RQ (fun t => rX11_reservedQuantity (q := (360, t)) ((mh_I x2.2 360 (Int32.toNatClampNeg ((i + 1)) + 1))) x2.2 (Nat.le_of_ble_eq_true rfl))) (fun x5 e6 => Or.inl ⟨_, _, rfl, fun z => z, ?_⟩)
  show mm_E2 _ _ _ _ _ [.int x5.1] x5.2 _ _
  refine me_istore (pc' := 1756) (i := 7) (L' := [some (.ref 360), some (.ref 0), some (.ref 352), some (.ref 358), some (.ref 359), some (.int i), some (.int x2.1), some (.int x5.1), none]) dL_law_1754 rfl (Nat.le_of_ble_eq_true rfl) (Nat.le_of_ble_eq_true rfl) rfl ?_
  refine me_aload_n (pc' := 1757) (i := 2) dL_law_1756 rfl rfl rfl ?_
  refine me_callV (As := []) (st := []) (F' := mm_SQ) (G' := mm_SQ) (F'' := mm_SQ) (pc' := 1760) dL_law_1757 rfl mfX11_thrown rfl lkL_186 kd_352 rfl (mm_ltQ kd_352) ⟨Nat.le_of_ble_eq_true rfl, Nat.le_of_ble_eq_true rfl⟩ (Nat.le_of_ble_eq_true rfl) (fun z => z) (mm_RQ (fun t => rX11_thrown (q := (360, t)) x5.2 (Nat.le_of_ble_eq_true rfl))) (fun x7 e8 => Or.inl ⟨_, _, rfl, fun z => z, ?_⟩)
  show mm_E2 _ _ _ _ _ [.int x7] x5.2 _ _
  refine me_iload (pc' := 1762) (i := 6) dL_law_1760 rfl rfl ?_
  refine me_icmp_eq (pc' := 1765) (tgt := 1767) dL_law_1762 (by decide) rfl (fun c9 => ?_) (fun c9 => ?_)
  · refine me_iload (pc' := 1769) (i := 6) dL_law_1767 rfl rfl ?_
    refine mm_jnI (fun (j109 : Unit → Option (Bool × mm_H)) => ∀ (_ : Unit), mm_E2 mm_SQ mm_SQ mL_law 1784 [some (.ref 360), some (.ref 0), some (.ref 352), some (.ref 358), some (.ref 359), some (.int i), none, none, none] [] x5.2 (j109 ()) lf_ze) ?_ (fun j10 j10p => ?_)
    · intro _
      refine me_goto (tgt := 3496) dL_law_1784 (by decide) ?_
      exact jp x5.2
    refine me_if_ne (pc' := 1772) (tgt := 1784) dL_law_1769 (by decide) rfl (fun c11 => ?_) (fun c11 => ?_)
    · exact mm_maskB [true, true, true, true, true, true, false, false, false] (j10p ())
    · refine me_aload_n (pc' := 1773) (i := 3) dL_law_1772 rfl rfl rfl ?_
      refine me_iconst (pc' := 1774) (v := 0) dL_law_1773 rfl kc_i0 ?_
      refine mm_guard (fun c12 => ?_)
      refine me_lald (pc' := 1775) dL_law_1774 rfl kd_358 (mm_ltQ kd_358) (mm_ibd_of c12) ?_
      refine me_iload (pc' := 1777) (i := 7) dL_law_1775 rfl rfl ?_
      refine me_i2l (pc' := 1778) dL_law_1777 rfl ?_
      refine me_lcmp (pc' := 1779) dL_law_1778 rfl ?_
      refine me_if_eq (pc' := 1782) (tgt := 1784) dL_law_1779 (by decide) rfl (fun c13 => ?_) (fun c13 => ?_)
      · exact mm_maskB [true, true, true, true, true, true, false, false, false] (j10p ())
      · refine me_iconst (pc' := 1783) (v := 0) dL_law_1782 rfl kc_i0 ?_
        exact me_zret (b := false) dL_law_1783 rfl (fun z => z) rfl
  · refine me_iconst (pc' := 1766) (v := 0) dL_law_1765 rfl kc_i0 ?_
    exact me_zret (b := false) dL_law_1766 rfl (fun z => z) rfl
def gL_c1787 (i : Int32) (j : mm_H → Option (Bool × mm_H)) (h : mm_H) : Option (Bool × mm_H) :=
if mm_isb ((i + 1)) (mh_I h 360 0) = true then
(gL_isOpen ((mh_I h 360 (Int32.toNatClampNeg ((i + 1)) + 1))) h).bind (fun (x2 : (Int32 × mm_H)) =>
if mm_isb ((i + 1)) (mh_I x2.2 360 0) = true then
(gX11_isOpen ((mh_I x2.2 360 (Int32.toNatClampNeg ((i + 1)) + 1))) x2.2).bind (fun (x5 : (Bool × mm_H)) =>
(gX11_thrown x5.2).bind (fun (x7 : Int32) =>
if x7 = x2.1 then
mm_jn (fun (_ : Unit) =>
j x5.2) (fun (j10 : Unit → Option (Bool × mm_H)) =>
if x2.1 = 0 then
if mm_ibd 0 1 = true then
mm_jn (fun (y13 : Int64) (y14 : Int64) =>
if (lg_cmp y14 y13) = 0 then
j10 ()
else
some (false, x5.2)) (fun (j15 : Int64 → Int64 → Option (Bool × mm_H)) =>
if x5.1 = true then
j15 1 ((mh_J x5.2 358 (Int32.toNatClampNeg (0))))
else
j15 0 ((mh_J x5.2 358 (Int32.toNatClampNeg (0))))) else none
else
j10 ())
else
some (false, x5.2))) else none) else none
theorem rL_c1787 (i : Int32) (j : mm_H → Option (Bool × mm_H)) (jp : ∀ h, mm_E2 mm_SQ mm_SQ mL_law 3496 [some (.ref 360), some (.ref 0), some (.ref 352), some (.ref 358), some (.ref 359), some (.int i), none, none, none] [] h (j h) lf_ze) (h : mm_H) : mm_E2 mm_SQ mm_SQ mL_law 1787 [some (.ref 360), some (.ref 0), some (.ref 352), some (.ref 358), some (.ref 359), some (.int i), none, none, none] [] h (gL_c1787 i j h) lf_ze := by
  unfold gL_c1787
  refine me_aload_n (pc' := 1788) (i := 1) dL_law_1787 rfl rfl rfl ?_
  refine me_aload_n (pc' := 1789) (i := 0) dL_law_1788 rfl rfl rfl ?_
  refine me_iload (pc' := 1791) (i := 5) dL_law_1789 rfl rfl ?_
  refine me_iconst (pc' := 1792) (v := 1) dL_law_1791 rfl kc_i1 ?_
  refine me_iadd (pc' := 1793) dL_law_1792 rfl ?_
  refine mm_guard (fun c1 => ?_)
  refine me_scld (pc' := 1794) dL_law_1793 rfl c1 ?_
  refine me_aload_n (pc' := 1795) (i := 3) dL_law_1794 rfl rfl rfl ?_
  refine me_callSX (As := [.ref 0, .int (mh_I h 360 (Int32.toNatClampNeg ((i + 1)) + 1)), .ref 358]) (st := []) (F' := mm_SQ) (G' := mm_SQ) (F'' := mm_SQ) (pc' := 1798) dL_law_1795 rfl mfL_isOpen rfl lx_290 ⟨Nat.le_of_ble_eq_true rfl, Nat.le_of_ble_eq_true rfl⟩ (Nat.le_of_ble_eq_true rfl) (fun z => z) (mm_RQ (fun t => rL_isOpen (q := (360, t)) ((mh_I h 360 (Int32.toNatClampNeg ((i + 1)) + 1))) h (Nat.le_of_ble_eq_true rfl))) (fun x2 e3 => Or.inl ⟨_, _, rfl, fun z => z, ?_⟩)
  show mm_E2 _ _ _ _ _ [.int x2.1] x2.2 _ _
  refine me_istore (pc' := 1800) (i := 6) (L' := [some (.ref 360), some (.ref 0), some (.ref 352), some (.ref 358), some (.ref 359), some (.int i), some (.int x2.1), none, none]) dL_law_1798 rfl (Nat.le_of_ble_eq_true rfl) (Nat.le_of_ble_eq_true rfl) rfl ?_
  refine me_aload_n (pc' := 1801) (i := 2) dL_law_1800 rfl rfl rfl ?_
  refine me_aload_n (pc' := 1802) (i := 0) dL_law_1801 rfl rfl rfl ?_
  refine me_iload (pc' := 1804) (i := 5) dL_law_1802 rfl rfl ?_
  refine me_iconst (pc' := 1805) (v := 1) dL_law_1804 rfl kc_i1 ?_
  refine me_iadd (pc' := 1806) dL_law_1805 rfl ?_
  refine mm_guard (fun c4 => ?_)
  refine me_scld (pc' := 1807) dL_law_1806 rfl c4 ?_
  refine me_callV (As := [.int (mh_I x2.2 360 (Int32.toNatClampNeg ((i + 1)) + 1))]) (st := []) (F' := mm_SQ) (G' := mm_SQ) (F'' := mm_SQ) (pc' := 1810) dL_law_1807 rfl mfX11_isOpen rfl lkL_292 kd_352 rfl (mm_ltQ kd_352) ⟨Nat.le_of_ble_eq_true rfl, Nat.le_of_ble_eq_true rfl⟩ (Nat.le_of_ble_eq_true rfl) (fun z => z) (mm_RQ (fun t => rX11_isOpen (q := (360, t)) ((mh_I x2.2 360 (Int32.toNatClampNeg ((i + 1)) + 1))) x2.2 (Nat.le_of_ble_eq_true rfl))) (fun x5 e6 => Or.inl ⟨_, _, rfl, fun z => z, ?_⟩)
  show mm_E2 _ _ _ _ _ [.int (mx_bi x5.1)] x5.2 _ _
  refine me_istore (pc' := 1812) (i := 7) (L' := [some (.ref 360), some (.ref 0), some (.ref 352), some (.ref 358), some (.ref 359), some (.int i), some (.int x2.1), some (.int (mx_bi x5.1)), none]) dL_law_1810 rfl (Nat.le_of_ble_eq_true rfl) (Nat.le_of_ble_eq_true rfl) rfl ?_
  refine me_aload_n (pc' := 1813) (i := 2) dL_law_1812 rfl rfl rfl ?_
  refine me_callV (As := []) (st := []) (F' := mm_SQ) (G' := mm_SQ) (F'' := mm_SQ) (pc' := 1816) dL_law_1813 rfl mfX11_thrown rfl lkL_186 kd_352 rfl (mm_ltQ kd_352) ⟨Nat.le_of_ble_eq_true rfl, Nat.le_of_ble_eq_true rfl⟩ (Nat.le_of_ble_eq_true rfl) (fun z => z) (mm_RQ (fun t => rX11_thrown (q := (360, t)) x5.2 (Nat.le_of_ble_eq_true rfl))) (fun x7 e8 => Or.inl ⟨_, _, rfl, fun z => z, ?_⟩)
  show mm_E2 _ _ _ _ _ [.int x7] x5.2 _ _
  refine me_iload (pc' := 1818) (i := 6) dL_law_1816 rfl rfl ?_
  refine me_icmp_eq (pc' := 1821) (tgt := 1823) dL_law_1818 (by decide) rfl (fun c9 => ?_) (fun c9 => ?_)
  · refine me_iload (pc' := 1825) (i := 6) dL_law_1823 rfl rfl ?_
    refine mm_jnI (fun (j109 : Unit → Option (Bool × mm_H)) => ∀ (_ : Unit), mm_E2 mm_SQ mm_SQ mL_law 1847 [some (.ref 360), some (.ref 0), some (.ref 352), some (.ref 358), some (.ref 359), some (.int i), none, none, none] [] x5.2 (j109 ()) lf_ze) ?_ (fun j10 j10p => ?_)
    · intro _
      refine me_goto (tgt := 3496) dL_law_1847 (by decide) ?_
      exact jp x5.2
    refine me_if_ne (pc' := 1828) (tgt := 1847) dL_law_1825 (by decide) rfl (fun c11 => ?_) (fun c11 => ?_)
    · exact mm_maskB [true, true, true, true, true, true, false, false, false] (j10p ())
    · refine me_aload_n (pc' := 1829) (i := 3) dL_law_1828 rfl rfl rfl ?_
      refine me_iconst (pc' := 1830) (v := 0) dL_law_1829 rfl kc_i0 ?_
      refine mm_guard (fun c12 => ?_)
      refine me_lald (pc' := 1831) dL_law_1830 rfl kd_358 (mm_ltQ kd_358) (mm_ibd_of c12) ?_
      refine me_iload (pc' := 1833) (i := 7) dL_law_1831 rfl rfl ?_
      refine mm_jnI (fun (j159 : Int64 → Int64 → Option (Bool × mm_H)) => ∀ (y13 : Int64) (y14 : Int64), mm_E2 mm_SQ mm_SQ mL_law 1841 [some (.ref 360), some (.ref 0), some (.ref 352), some (.ref 358), some (.ref 359), some (.int i), none, none, none] [.long y13, .long y14] x5.2 (j159 y13 y14) lf_ze) ?_ (fun j15 j15p => ?_)
      · intro y13 y14
        refine me_lcmp (pc' := 1842) dL_law_1841 rfl ?_
        refine me_if_eq (pc' := 1845) (tgt := 1847) dL_law_1842 (by decide) rfl (fun c16 => ?_) (fun c16 => ?_)
        · exact j10p ()
        · refine me_iconst (pc' := 1846) (v := 0) dL_law_1845 rfl kc_i0 ?_
          exact me_zret (b := false) dL_law_1846 rfl (fun z => z) rfl
      refine me_ifB_eq (pc' := 1836) (tgt := 1840) dL_law_1833 (by decide) rfl (fun c17 => ?_) (fun c17 => ?_)
      · refine me_lconst (pc' := 1841) (v := 0) dL_law_1840 rfl rfl ?_
        exact mm_maskB [true, true, true, true, true, true, false, false, false] (j15p 0 ((mh_J x5.2 358 (Int32.toNatClampNeg (0)))))
      · refine me_lconst (pc' := 1837) (v := 1) dL_law_1836 rfl rfl ?_
        refine me_goto (tgt := 1841) dL_law_1837 (by decide) ?_
        exact mm_maskB [true, true, true, true, true, true, false, false, false] (j15p 1 ((mh_J x5.2 358 (Int32.toNatClampNeg (0)))))
  · refine me_iconst (pc' := 1822) (v := 0) dL_law_1821 rfl kc_i0 ?_
    exact me_zret (b := false) dL_law_1822 rfl (fun z => z) rfl
def gL_c1850 (i : Int32) (j : mm_H → Option (Bool × mm_H)) (h : mm_H) : Option (Bool × mm_H) :=
if mm_isb ((i + 1)) (mh_I h 360 0) = true then
(gL_missing ((mh_I h 360 (Int32.toNatClampNeg ((i + 1)) + 1))) h).bind (fun (x2 : (Int32 × mm_H)) =>
if mm_isb ((i + 1)) (mh_I x2.2 360 0) = true then
(gX11_missing ((mh_I x2.2 360 (Int32.toNatClampNeg ((i + 1)) + 1))) x2.2).bind (fun (x5 : (Int32 × mm_H)) =>
(gX11_thrown x5.2).bind (fun (x7 : Int32) =>
if x7 = x2.1 then
mm_jn (fun (_ : Unit) =>
j x5.2) (fun (j10 : Unit → Option (Bool × mm_H)) =>
if x2.1 = 0 then
if mm_ibd 0 1 = true then
if (lg_cmp ((mh_J x5.2 358 (Int32.toNatClampNeg (0)))) ((x5.1).toInt64)) = 0 then
j10 ()
else
some (false, x5.2) else none
else
j10 ())
else
some (false, x5.2))) else none) else none
theorem rL_c1850 (i : Int32) (j : mm_H → Option (Bool × mm_H)) (jp : ∀ h, mm_E2 mm_SQ mm_SQ mL_law 3496 [some (.ref 360), some (.ref 0), some (.ref 352), some (.ref 358), some (.ref 359), some (.int i), none, none, none] [] h (j h) lf_ze) (h : mm_H) : mm_E2 mm_SQ mm_SQ mL_law 1850 [some (.ref 360), some (.ref 0), some (.ref 352), some (.ref 358), some (.ref 359), some (.int i), none, none, none] [] h (gL_c1850 i j h) lf_ze := by
  unfold gL_c1850
  refine me_aload_n (pc' := 1851) (i := 1) dL_law_1850 rfl rfl rfl ?_
  refine me_aload_n (pc' := 1852) (i := 0) dL_law_1851 rfl rfl rfl ?_
  refine me_iload (pc' := 1854) (i := 5) dL_law_1852 rfl rfl ?_
  refine me_iconst (pc' := 1855) (v := 1) dL_law_1854 rfl kc_i1 ?_
  refine me_iadd (pc' := 1856) dL_law_1855 rfl ?_
  refine mm_guard (fun c1 => ?_)
  refine me_scld (pc' := 1857) dL_law_1856 rfl c1 ?_
  refine me_aload_n (pc' := 1858) (i := 3) dL_law_1857 rfl rfl rfl ?_
  refine me_callSX (As := [.ref 0, .int (mh_I h 360 (Int32.toNatClampNeg ((i + 1)) + 1)), .ref 358]) (st := []) (F' := mm_SQ) (G' := mm_SQ) (F'' := mm_SQ) (pc' := 1861) dL_law_1858 rfl mfL_missing rfl lx_293 ⟨Nat.le_of_ble_eq_true rfl, Nat.le_of_ble_eq_true rfl⟩ (Nat.le_of_ble_eq_true rfl) (fun z => z) (mm_RQ (fun t => rL_missing (q := (360, t)) ((mh_I h 360 (Int32.toNatClampNeg ((i + 1)) + 1))) h (Nat.le_of_ble_eq_true rfl))) (fun x2 e3 => Or.inl ⟨_, _, rfl, fun z => z, ?_⟩)
  show mm_E2 _ _ _ _ _ [.int x2.1] x2.2 _ _
  refine me_istore (pc' := 1863) (i := 6) (L' := [some (.ref 360), some (.ref 0), some (.ref 352), some (.ref 358), some (.ref 359), some (.int i), some (.int x2.1), none, none]) dL_law_1861 rfl (Nat.le_of_ble_eq_true rfl) (Nat.le_of_ble_eq_true rfl) rfl ?_
  refine me_aload_n (pc' := 1864) (i := 2) dL_law_1863 rfl rfl rfl ?_
  refine me_aload_n (pc' := 1865) (i := 0) dL_law_1864 rfl rfl rfl ?_
  refine me_iload (pc' := 1867) (i := 5) dL_law_1865 rfl rfl ?_
  refine me_iconst (pc' := 1868) (v := 1) dL_law_1867 rfl kc_i1 ?_
  refine me_iadd (pc' := 1869) dL_law_1868 rfl ?_
  refine mm_guard (fun c4 => ?_)
  refine me_scld (pc' := 1870) dL_law_1869 rfl c4 ?_
  refine me_callV (As := [.int (mh_I x2.2 360 (Int32.toNatClampNeg ((i + 1)) + 1))]) (st := []) (F' := mm_SQ) (G' := mm_SQ) (F'' := mm_SQ) (pc' := 1873) dL_law_1870 rfl mfX11_missing rfl lkL_295 kd_352 rfl (mm_ltQ kd_352) ⟨Nat.le_of_ble_eq_true rfl, Nat.le_of_ble_eq_true rfl⟩ (Nat.le_of_ble_eq_true rfl) (fun z => z) (mm_RQ (fun t => rX11_missing (q := (360, t)) ((mh_I x2.2 360 (Int32.toNatClampNeg ((i + 1)) + 1))) x2.2 (Nat.le_of_ble_eq_true rfl))) (fun x5 e6 => Or.inl ⟨_, _, rfl, fun z => z, ?_⟩)
  show mm_E2 _ _ _ _ _ [.int x5.1] x5.2 _ _
  refine me_istore (pc' := 1875) (i := 7) (L' := [some (.ref 360), some (.ref 0), some (.ref 352), some (.ref 358), some (.ref 359), some (.int i), some (.int x2.1), some (.int x5.1), none]) dL_law_1873 rfl (Nat.le_of_ble_eq_true rfl) (Nat.le_of_ble_eq_true rfl) rfl ?_
  refine me_aload_n (pc' := 1876) (i := 2) dL_law_1875 rfl rfl rfl ?_
  refine me_callV (As := []) (st := []) (F' := mm_SQ) (G' := mm_SQ) (F'' := mm_SQ) (pc' := 1879) dL_law_1876 rfl mfX11_thrown rfl lkL_186 kd_352 rfl (mm_ltQ kd_352) ⟨Nat.le_of_ble_eq_true rfl, Nat.le_of_ble_eq_true rfl⟩ (Nat.le_of_ble_eq_true rfl) (fun z => z) (mm_RQ (fun t => rX11_thrown (q := (360, t)) x5.2 (Nat.le_of_ble_eq_true rfl))) (fun x7 e8 => Or.inl ⟨_, _, rfl, fun z => z, ?_⟩)
  show mm_E2 _ _ _ _ _ [.int x7] x5.2 _ _
  refine me_iload (pc' := 1881) (i := 6) dL_law_1879 rfl rfl ?_
  refine me_icmp_eq (pc' := 1884) (tgt := 1886) dL_law_1881 (by decide) rfl (fun c9 => ?_) (fun c9 => ?_)
  · refine me_iload (pc' := 1888) (i := 6) dL_law_1886 rfl rfl ?_
    refine mm_jnI (fun (j109 : Unit → Option (Bool × mm_H)) => ∀ (_ : Unit), mm_E2 mm_SQ mm_SQ mL_law 1903 [some (.ref 360), some (.ref 0), some (.ref 352), some (.ref 358), some (.ref 359), some (.int i), none, none, none] [] x5.2 (j109 ()) lf_ze) ?_ (fun j10 j10p => ?_)
    · intro _
      refine me_goto (tgt := 3496) dL_law_1903 (by decide) ?_
      exact jp x5.2
    refine me_if_ne (pc' := 1891) (tgt := 1903) dL_law_1888 (by decide) rfl (fun c11 => ?_) (fun c11 => ?_)
    · exact mm_maskB [true, true, true, true, true, true, false, false, false] (j10p ())
    · refine me_aload_n (pc' := 1892) (i := 3) dL_law_1891 rfl rfl rfl ?_
      refine me_iconst (pc' := 1893) (v := 0) dL_law_1892 rfl kc_i0 ?_
      refine mm_guard (fun c12 => ?_)
      refine me_lald (pc' := 1894) dL_law_1893 rfl kd_358 (mm_ltQ kd_358) (mm_ibd_of c12) ?_
      refine me_iload (pc' := 1896) (i := 7) dL_law_1894 rfl rfl ?_
      refine me_i2l (pc' := 1897) dL_law_1896 rfl ?_
      refine me_lcmp (pc' := 1898) dL_law_1897 rfl ?_
      refine me_if_eq (pc' := 1901) (tgt := 1903) dL_law_1898 (by decide) rfl (fun c13 => ?_) (fun c13 => ?_)
      · exact mm_maskB [true, true, true, true, true, true, false, false, false] (j10p ())
      · refine me_iconst (pc' := 1902) (v := 0) dL_law_1901 rfl kc_i0 ?_
        exact me_zret (b := false) dL_law_1902 rfl (fun z => z) rfl
  · refine me_iconst (pc' := 1885) (v := 0) dL_law_1884 rfl kc_i0 ?_
    exact me_zret (b := false) dL_law_1885 rfl (fun z => z) rfl
def gL_c1906 (i : Int32) (j : mm_H → Option (Bool × mm_H)) (h : mm_H) : Option (Bool × mm_H) :=
if mm_isb ((i + 1)) (mh_I h 360 0) = true then
if mm_isb ((i + 2)) (mh_I h 360 0) = true then
(gL_allocation ((mh_I h 360 (Int32.toNatClampNeg ((i + 1)) + 1))) ((mh_I h 360 (Int32.toNatClampNeg ((i + 2)) + 1))) h).bind (fun (x3 : (Int32 × mm_H)) =>
if mm_isb ((i + 1)) (mh_I x3.2 360 0) = true then
if mm_isb ((i + 2)) (mh_I x3.2 360 0) = true then
(gX11_allocation ((mh_I x3.2 360 (Int32.toNatClampNeg ((i + 1)) + 1))) ((mh_I x3.2 360 (Int32.toNatClampNeg ((i + 2)) + 1))) x3.2).bind (fun (x7 : (Int32 × mm_H)) =>
(gX11_thrown x7.2).bind (fun (x9 : Int32) =>
if x9 = x3.1 then
mm_jn (fun (_ : Unit) =>
j x7.2) (fun (j12 : Unit → Option (Bool × mm_H)) =>
if x3.1 = 0 then
if mm_ibd 0 1 = true then
if (lg_cmp ((mh_J x7.2 358 (Int32.toNatClampNeg (0)))) ((x7.1).toInt64)) = 0 then
j12 ()
else
some (false, x7.2) else none
else
j12 ())
else
some (false, x7.2))) else none else none) else none else none
theorem rL_c1906 (i : Int32) (j : mm_H → Option (Bool × mm_H)) (jp : ∀ h, mm_E2 mm_SQ mm_SQ mL_law 3496 [some (.ref 360), some (.ref 0), some (.ref 352), some (.ref 358), some (.ref 359), some (.int i), none, none, none] [] h (j h) lf_ze) (h : mm_H) : mm_E2 mm_SQ mm_SQ mL_law 1906 [some (.ref 360), some (.ref 0), some (.ref 352), some (.ref 358), some (.ref 359), some (.int i), none, none, none] [] h (gL_c1906 i j h) lf_ze := by
  unfold gL_c1906
  refine me_aload_n (pc' := 1907) (i := 1) dL_law_1906 rfl rfl rfl ?_
  refine me_aload_n (pc' := 1908) (i := 0) dL_law_1907 rfl rfl rfl ?_
  refine me_iload (pc' := 1910) (i := 5) dL_law_1908 rfl rfl ?_
  refine me_iconst (pc' := 1911) (v := 1) dL_law_1910 rfl kc_i1 ?_
  refine me_iadd (pc' := 1912) dL_law_1911 rfl ?_
  refine mm_guard (fun c1 => ?_)
  refine me_scld (pc' := 1913) dL_law_1912 rfl c1 ?_
  refine me_aload_n (pc' := 1914) (i := 0) dL_law_1913 rfl rfl rfl ?_
  refine me_iload (pc' := 1916) (i := 5) dL_law_1914 rfl rfl ?_
  refine me_iconst (pc' := 1917) (v := 2) dL_law_1916 rfl kc_i2 ?_
  refine me_iadd (pc' := 1918) dL_law_1917 rfl ?_
  refine mm_guard (fun c2 => ?_)
  refine me_scld (pc' := 1919) dL_law_1918 rfl c2 ?_
  refine me_aload_n (pc' := 1920) (i := 3) dL_law_1919 rfl rfl rfl ?_
  refine me_callSX (As := [.ref 0, .int (mh_I h 360 (Int32.toNatClampNeg ((i + 1)) + 1)), .int (mh_I h 360 (Int32.toNatClampNeg ((i + 2)) + 1)), .ref 358]) (st := []) (F' := mm_SQ) (G' := mm_SQ) (F'' := mm_SQ) (pc' := 1923) dL_law_1920 rfl mfL_allocation rfl lx_296 ⟨Nat.le_of_ble_eq_true rfl, Nat.le_of_ble_eq_true rfl⟩ (Nat.le_of_ble_eq_true rfl) (fun z => z) (mm_RQ (fun t => rL_allocation (q := (360, t)) ((mh_I h 360 (Int32.toNatClampNeg ((i + 1)) + 1))) ((mh_I h 360 (Int32.toNatClampNeg ((i + 2)) + 1))) h (Nat.le_of_ble_eq_true rfl))) (fun x3 e4 => Or.inl ⟨_, _, rfl, fun z => z, ?_⟩)
  show mm_E2 _ _ _ _ _ [.int x3.1] x3.2 _ _
  refine me_istore (pc' := 1925) (i := 6) (L' := [some (.ref 360), some (.ref 0), some (.ref 352), some (.ref 358), some (.ref 359), some (.int i), some (.int x3.1), none, none]) dL_law_1923 rfl (Nat.le_of_ble_eq_true rfl) (Nat.le_of_ble_eq_true rfl) rfl ?_
  refine me_aload_n (pc' := 1926) (i := 2) dL_law_1925 rfl rfl rfl ?_
  refine me_aload_n (pc' := 1927) (i := 0) dL_law_1926 rfl rfl rfl ?_
  refine me_iload (pc' := 1929) (i := 5) dL_law_1927 rfl rfl ?_
  refine me_iconst (pc' := 1930) (v := 1) dL_law_1929 rfl kc_i1 ?_
  refine me_iadd (pc' := 1931) dL_law_1930 rfl ?_
  refine mm_guard (fun c5 => ?_)
  refine me_scld (pc' := 1932) dL_law_1931 rfl c5 ?_
  refine me_aload_n (pc' := 1933) (i := 0) dL_law_1932 rfl rfl rfl ?_
  refine me_iload (pc' := 1935) (i := 5) dL_law_1933 rfl rfl ?_
  refine me_iconst (pc' := 1936) (v := 2) dL_law_1935 rfl kc_i2 ?_
  refine me_iadd (pc' := 1937) dL_law_1936 rfl ?_
  refine mm_guard (fun c6 => ?_)
  refine me_scld (pc' := 1938) dL_law_1937 rfl c6 ?_
  refine me_callV (As := [.int (mh_I x3.2 360 (Int32.toNatClampNeg ((i + 1)) + 1)), .int (mh_I x3.2 360 (Int32.toNatClampNeg ((i + 2)) + 1))]) (st := []) (F' := mm_SQ) (G' := mm_SQ) (F'' := mm_SQ) (pc' := 1941) dL_law_1938 rfl mfX11_allocation rfl lkL_298 kd_352 rfl (mm_ltQ kd_352) ⟨Nat.le_of_ble_eq_true rfl, Nat.le_of_ble_eq_true rfl⟩ (Nat.le_of_ble_eq_true rfl) (fun z => z) (mm_RQ (fun t => rX11_allocation (q := (360, t)) ((mh_I x3.2 360 (Int32.toNatClampNeg ((i + 1)) + 1))) ((mh_I x3.2 360 (Int32.toNatClampNeg ((i + 2)) + 1))) x3.2 (Nat.le_of_ble_eq_true rfl))) (fun x7 e8 => Or.inl ⟨_, _, rfl, fun z => z, ?_⟩)
  show mm_E2 _ _ _ _ _ [.int x7.1] x7.2 _ _
  refine me_istore (pc' := 1943) (i := 7) (L' := [some (.ref 360), some (.ref 0), some (.ref 352), some (.ref 358), some (.ref 359), some (.int i), some (.int x3.1), some (.int x7.1), none]) dL_law_1941 rfl (Nat.le_of_ble_eq_true rfl) (Nat.le_of_ble_eq_true rfl) rfl ?_
  refine me_aload_n (pc' := 1944) (i := 2) dL_law_1943 rfl rfl rfl ?_
  refine me_callV (As := []) (st := []) (F' := mm_SQ) (G' := mm_SQ) (F'' := mm_SQ) (pc' := 1947) dL_law_1944 rfl mfX11_thrown rfl lkL_186 kd_352 rfl (mm_ltQ kd_352) ⟨Nat.le_of_ble_eq_true rfl, Nat.le_of_ble_eq_true rfl⟩ (Nat.le_of_ble_eq_true rfl) (fun z => z) (mm_RQ (fun t => rX11_thrown (q := (360, t)) x7.2 (Nat.le_of_ble_eq_true rfl))) (fun x9 e10 => Or.inl ⟨_, _, rfl, fun z => z, ?_⟩)
  show mm_E2 _ _ _ _ _ [.int x9] x7.2 _ _
  refine me_iload (pc' := 1949) (i := 6) dL_law_1947 rfl rfl ?_
  refine me_icmp_eq (pc' := 1952) (tgt := 1954) dL_law_1949 (by decide) rfl (fun c11 => ?_) (fun c11 => ?_)
  · refine me_iload (pc' := 1956) (i := 6) dL_law_1954 rfl rfl ?_
    refine mm_jnI (fun (j129 : Unit → Option (Bool × mm_H)) => ∀ (_ : Unit), mm_E2 mm_SQ mm_SQ mL_law 1971 [some (.ref 360), some (.ref 0), some (.ref 352), some (.ref 358), some (.ref 359), some (.int i), none, none, none] [] x7.2 (j129 ()) lf_ze) ?_ (fun j12 j12p => ?_)
    · intro _
      refine me_goto (tgt := 3496) dL_law_1971 (by decide) ?_
      exact jp x7.2
    refine me_if_ne (pc' := 1959) (tgt := 1971) dL_law_1956 (by decide) rfl (fun c13 => ?_) (fun c13 => ?_)
    · exact mm_maskB [true, true, true, true, true, true, false, false, false] (j12p ())
    · refine me_aload_n (pc' := 1960) (i := 3) dL_law_1959 rfl rfl rfl ?_
      refine me_iconst (pc' := 1961) (v := 0) dL_law_1960 rfl kc_i0 ?_
      refine mm_guard (fun c14 => ?_)
      refine me_lald (pc' := 1962) dL_law_1961 rfl kd_358 (mm_ltQ kd_358) (mm_ibd_of c14) ?_
      refine me_iload (pc' := 1964) (i := 7) dL_law_1962 rfl rfl ?_
      refine me_i2l (pc' := 1965) dL_law_1964 rfl ?_
      refine me_lcmp (pc' := 1966) dL_law_1965 rfl ?_
      refine me_if_eq (pc' := 1969) (tgt := 1971) dL_law_1966 (by decide) rfl (fun c15 => ?_) (fun c15 => ?_)
      · exact mm_maskB [true, true, true, true, true, true, false, false, false] (j12p ())
      · refine me_iconst (pc' := 1970) (v := 0) dL_law_1969 rfl kc_i0 ?_
        exact me_zret (b := false) dL_law_1970 rfl (fun z => z) rfl
  · refine me_iconst (pc' := 1953) (v := 0) dL_law_1952 rfl kc_i0 ?_
    exact me_zret (b := false) dL_law_1953 rfl (fun z => z) rfl
def gL_c1974 (i : Int32) (j : mm_H → Option (Bool × mm_H)) (h : mm_H) : Option (Bool × mm_H) :=
if mm_isb ((i + 1)) (mh_I h 360 0) = true then
(gL_whyNotShipped ((mh_I h 360 (Int32.toNatClampNeg ((i + 1)) + 1))) h).bind (fun (x2 : (Int32 × mm_H)) =>
if mm_isb ((i + 1)) (mh_I x2.2 360 0) = true then
(gX11_whyNotShipped ((mh_I x2.2 360 (Int32.toNatClampNeg ((i + 1)) + 1))) x2.2).bind (fun (x5 : (Int32 × mm_H)) =>
(gX11_thrown x5.2).bind (fun (x7 : Int32) =>
if x7 = x2.1 then
mm_jn (fun (_ : Unit) =>
j x5.2) (fun (j10 : Unit → Option (Bool × mm_H)) =>
if x2.1 = 0 then
if mm_ibd 0 1 = true then
if (lg_cmp ((mh_J x5.2 358 (Int32.toNatClampNeg (0)))) ((x5.1).toInt64)) = 0 then
j10 ()
else
some (false, x5.2) else none
else
j10 ())
else
some (false, x5.2))) else none) else none
theorem rL_c1974 (i : Int32) (j : mm_H → Option (Bool × mm_H)) (jp : ∀ h, mm_E2 mm_SQ mm_SQ mL_law 3496 [some (.ref 360), some (.ref 0), some (.ref 352), some (.ref 358), some (.ref 359), some (.int i), none, none, none] [] h (j h) lf_ze) (h : mm_H) : mm_E2 mm_SQ mm_SQ mL_law 1974 [some (.ref 360), some (.ref 0), some (.ref 352), some (.ref 358), some (.ref 359), some (.int i), none, none, none] [] h (gL_c1974 i j h) lf_ze := by
  unfold gL_c1974
  refine me_aload_n (pc' := 1975) (i := 1) dL_law_1974 rfl rfl rfl ?_
  refine me_aload_n (pc' := 1976) (i := 0) dL_law_1975 rfl rfl rfl ?_
  refine me_iload (pc' := 1978) (i := 5) dL_law_1976 rfl rfl ?_
  refine me_iconst (pc' := 1979) (v := 1) dL_law_1978 rfl kc_i1 ?_
  refine me_iadd (pc' := 1980) dL_law_1979 rfl ?_
  refine mm_guard (fun c1 => ?_)
  refine me_scld (pc' := 1981) dL_law_1980 rfl c1 ?_
  refine me_aload_n (pc' := 1982) (i := 3) dL_law_1981 rfl rfl rfl ?_
  refine me_callSX (As := [.ref 0, .int (mh_I h 360 (Int32.toNatClampNeg ((i + 1)) + 1)), .ref 358]) (st := []) (F' := mm_SQ) (G' := mm_SQ) (F'' := mm_SQ) (pc' := 1985) dL_law_1982 rfl mfL_whyNotShipped rfl lx_299 ⟨Nat.le_of_ble_eq_true rfl, Nat.le_of_ble_eq_true rfl⟩ (Nat.le_of_ble_eq_true rfl) (fun z => z) (mm_RQ (fun t => rL_whyNotShipped (q := (360, t)) ((mh_I h 360 (Int32.toNatClampNeg ((i + 1)) + 1))) h (Nat.le_of_ble_eq_true rfl))) (fun x2 e3 => Or.inl ⟨_, _, rfl, fun z => z, ?_⟩)
  show mm_E2 _ _ _ _ _ [.int x2.1] x2.2 _ _
  refine me_istore (pc' := 1987) (i := 6) (L' := [some (.ref 360), some (.ref 0), some (.ref 352), some (.ref 358), some (.ref 359), some (.int i), some (.int x2.1), none, none]) dL_law_1985 rfl (Nat.le_of_ble_eq_true rfl) (Nat.le_of_ble_eq_true rfl) rfl ?_
  refine me_aload_n (pc' := 1988) (i := 2) dL_law_1987 rfl rfl rfl ?_
  refine me_aload_n (pc' := 1989) (i := 0) dL_law_1988 rfl rfl rfl ?_
  refine me_iload (pc' := 1991) (i := 5) dL_law_1989 rfl rfl ?_
  refine me_iconst (pc' := 1992) (v := 1) dL_law_1991 rfl kc_i1 ?_
  refine me_iadd (pc' := 1993) dL_law_1992 rfl ?_
  refine mm_guard (fun c4 => ?_)
  refine me_scld (pc' := 1994) dL_law_1993 rfl c4 ?_
  refine me_callV (As := [.int (mh_I x2.2 360 (Int32.toNatClampNeg ((i + 1)) + 1))]) (st := []) (F' := mm_SQ) (G' := mm_SQ) (F'' := mm_SQ) (pc' := 1997) dL_law_1994 rfl mfX11_whyNotShipped rfl lkL_301 kd_352 rfl (mm_ltQ kd_352) ⟨Nat.le_of_ble_eq_true rfl, Nat.le_of_ble_eq_true rfl⟩ (Nat.le_of_ble_eq_true rfl) (fun z => z) (mm_RQ (fun t => rX11_whyNotShipped (q := (360, t)) ((mh_I x2.2 360 (Int32.toNatClampNeg ((i + 1)) + 1))) x2.2 (Nat.le_of_ble_eq_true rfl))) (fun x5 e6 => Or.inl ⟨_, _, rfl, fun z => z, ?_⟩)
  show mm_E2 _ _ _ _ _ [.int x5.1] x5.2 _ _
  refine me_istore (pc' := 1999) (i := 7) (L' := [some (.ref 360), some (.ref 0), some (.ref 352), some (.ref 358), some (.ref 359), some (.int i), some (.int x2.1), some (.int x5.1), none]) dL_law_1997 rfl (Nat.le_of_ble_eq_true rfl) (Nat.le_of_ble_eq_true rfl) rfl ?_
  refine me_aload_n (pc' := 2000) (i := 2) dL_law_1999 rfl rfl rfl ?_
  refine me_callV (As := []) (st := []) (F' := mm_SQ) (G' := mm_SQ) (F'' := mm_SQ) (pc' := 2003) dL_law_2000 rfl mfX11_thrown rfl lkL_186 kd_352 rfl (mm_ltQ kd_352) ⟨Nat.le_of_ble_eq_true rfl, Nat.le_of_ble_eq_true rfl⟩ (Nat.le_of_ble_eq_true rfl) (fun z => z) (mm_RQ (fun t => rX11_thrown (q := (360, t)) x5.2 (Nat.le_of_ble_eq_true rfl))) (fun x7 e8 => Or.inl ⟨_, _, rfl, fun z => z, ?_⟩)
  show mm_E2 _ _ _ _ _ [.int x7] x5.2 _ _
  refine me_iload (pc' := 2005) (i := 6) dL_law_2003 rfl rfl ?_
  refine me_icmp_eq (pc' := 2008) (tgt := 2010) dL_law_2005 (by decide) rfl (fun c9 => ?_) (fun c9 => ?_)
  · refine me_iload (pc' := 2012) (i := 6) dL_law_2010 rfl rfl ?_
    refine mm_jnI (fun (j109 : Unit → Option (Bool × mm_H)) => ∀ (_ : Unit), mm_E2 mm_SQ mm_SQ mL_law 2027 [some (.ref 360), some (.ref 0), some (.ref 352), some (.ref 358), some (.ref 359), some (.int i), none, none, none] [] x5.2 (j109 ()) lf_ze) ?_ (fun j10 j10p => ?_)
    · intro _
      refine me_goto (tgt := 3496) dL_law_2027 (by decide) ?_
      exact jp x5.2
    refine me_if_ne (pc' := 2015) (tgt := 2027) dL_law_2012 (by decide) rfl (fun c11 => ?_) (fun c11 => ?_)
    · exact mm_maskB [true, true, true, true, true, true, false, false, false] (j10p ())
    · refine me_aload_n (pc' := 2016) (i := 3) dL_law_2015 rfl rfl rfl ?_
      refine me_iconst (pc' := 2017) (v := 0) dL_law_2016 rfl kc_i0 ?_
      refine mm_guard (fun c12 => ?_)
      refine me_lald (pc' := 2018) dL_law_2017 rfl kd_358 (mm_ltQ kd_358) (mm_ibd_of c12) ?_
      refine me_iload (pc' := 2020) (i := 7) dL_law_2018 rfl rfl ?_
      refine me_i2l (pc' := 2021) dL_law_2020 rfl ?_
      refine me_lcmp (pc' := 2022) dL_law_2021 rfl ?_
      refine me_if_eq (pc' := 2025) (tgt := 2027) dL_law_2022 (by decide) rfl (fun c13 => ?_) (fun c13 => ?_)
      · exact mm_maskB [true, true, true, true, true, true, false, false, false] (j10p ())
      · refine me_iconst (pc' := 2026) (v := 0) dL_law_2025 rfl kc_i0 ?_
        exact me_zret (b := false) dL_law_2026 rfl (fun z => z) rfl
  · refine me_iconst (pc' := 2009) (v := 0) dL_law_2008 rfl kc_i0 ?_
    exact me_zret (b := false) dL_law_2009 rfl (fun z => z) rfl
def gL_c2030 (i : Int32) (j : mm_H → Option (Bool × mm_H)) (h : mm_H) : Option (Bool × mm_H) :=
(gX10_endangeredReservations h).bind (fun (x1 : Int32) =>
(gX11_endangeredReservations h).bind (fun (x3 : (Int32 × mm_H)) =>
if x1 = x3.1 then
j x3.2
else
some (false, x3.2)))
theorem rL_c2030 (i : Int32) (j : mm_H → Option (Bool × mm_H)) (jp : ∀ h, mm_E2 mm_SQ mm_SQ mL_law 3496 [some (.ref 360), some (.ref 0), some (.ref 352), some (.ref 358), some (.ref 359), some (.int i), none, none, none] [] h (j h) lf_ze) (h : mm_H) : mm_E2 mm_SQ mm_SQ mL_law 2030 [some (.ref 360), some (.ref 0), some (.ref 352), some (.ref 358), some (.ref 359), some (.int i), none, none, none] [] h (gL_c2030 i j h) lf_ze := by
  unfold gL_c2030
  refine me_aload_n (pc' := 2031) (i := 1) dL_law_2030 rfl rfl rfl ?_
  refine me_callV (As := []) (st := []) (F' := mm_SQ) (G' := mm_SQ) (F'' := mm_SQ) (pc' := 2034) dL_law_2031 rfl mfX10_endangeredReservations rfl lkL_302 kd_0 rfl (mm_ltQ kd_0) ⟨Nat.le_of_ble_eq_true rfl, Nat.le_of_ble_eq_true rfl⟩ (Nat.le_of_ble_eq_true rfl) (fun z => z) (mm_RQ (fun t => rX10_endangeredReservations (q := (360, t)) h )) (fun x1 e2 => Or.inl ⟨_, _, rfl, fun z => z, ?_⟩)
  show mm_E2 _ _ _ _ _ [.int x1] h _ _
  refine me_aload_n (pc' := 2035) (i := 2) dL_law_2034 rfl rfl rfl ?_
  refine me_callV (As := []) (st := [.int x1]) (F' := mm_SQ) (G' := mm_SQ) (F'' := mm_SQ) (pc' := 2038) dL_law_2035 rfl mfX11_endangeredReservations rfl lkL_305 kd_352 rfl (mm_ltQ kd_352) ⟨Nat.le_of_ble_eq_true rfl, Nat.le_of_ble_eq_true rfl⟩ (Nat.le_of_ble_eq_true rfl) (fun z => z) (mm_RQ (fun t => rX11_endangeredReservations (q := (360, t)) h (Nat.le_of_ble_eq_true rfl))) (fun x3 e4 => Or.inl ⟨_, _, rfl, fun z => z, ?_⟩)
  show mm_E2 _ _ _ _ _ [.int x3.1, .int x1] x3.2 _ _
  refine me_icmp_eq (pc' := 2041) (tgt := 3496) dL_law_2038 (by decide) rfl (fun c5 => ?_) (fun c5 => ?_)
  · exact jp x3.2
  · refine me_iconst (pc' := 2042) (v := 0) dL_law_2041 rfl kc_i0 ?_
    exact me_zret (b := false) dL_law_2042 rfl (fun z => z) rfl
def gL_c2043 (i : Int32) (j : mm_H → Option (Bool × mm_H)) (h : mm_H) : Option (Bool × mm_H) :=
if mm_isb ((i + 1)) (mh_I h 360 0) = true then
(gL_receivedUnits ((mh_I h 360 (Int32.toNatClampNeg ((i + 1)) + 1))) h).bind (fun (x2 : (Int32 × mm_H)) =>
if mm_isb ((i + 1)) (mh_I x2.2 360 0) = true then
(gX11_receivedUnits ((mh_I x2.2 360 (Int32.toNatClampNeg ((i + 1)) + 1))) x2.2).bind (fun (x5 : (Int32 × mm_H)) =>
(gX11_thrown x5.2).bind (fun (x7 : Int32) =>
if x7 = x2.1 then
mm_jn (fun (_ : Unit) =>
j x5.2) (fun (j10 : Unit → Option (Bool × mm_H)) =>
if x2.1 = 0 then
if mm_ibd 0 1 = true then
if (lg_cmp ((mh_J x5.2 358 (Int32.toNatClampNeg (0)))) ((x5.1).toInt64)) = 0 then
j10 ()
else
some (false, x5.2) else none
else
j10 ())
else
some (false, x5.2))) else none) else none
theorem rL_c2043 (i : Int32) (j : mm_H → Option (Bool × mm_H)) (jp : ∀ h, mm_E2 mm_SQ mm_SQ mL_law 3496 [some (.ref 360), some (.ref 0), some (.ref 352), some (.ref 358), some (.ref 359), some (.int i), none, none, none] [] h (j h) lf_ze) (h : mm_H) : mm_E2 mm_SQ mm_SQ mL_law 2043 [some (.ref 360), some (.ref 0), some (.ref 352), some (.ref 358), some (.ref 359), some (.int i), none, none, none] [] h (gL_c2043 i j h) lf_ze := by
  unfold gL_c2043
  refine me_aload_n (pc' := 2044) (i := 1) dL_law_2043 rfl rfl rfl ?_
  refine me_aload_n (pc' := 2045) (i := 0) dL_law_2044 rfl rfl rfl ?_
  refine me_iload (pc' := 2047) (i := 5) dL_law_2045 rfl rfl ?_
  refine me_iconst (pc' := 2048) (v := 1) dL_law_2047 rfl kc_i1 ?_
  refine me_iadd (pc' := 2049) dL_law_2048 rfl ?_
  refine mm_guard (fun c1 => ?_)
  refine me_scld (pc' := 2050) dL_law_2049 rfl c1 ?_
  refine me_aload_n (pc' := 2051) (i := 3) dL_law_2050 rfl rfl rfl ?_
  refine me_callSX (As := [.ref 0, .int (mh_I h 360 (Int32.toNatClampNeg ((i + 1)) + 1)), .ref 358]) (st := []) (F' := mm_SQ) (G' := mm_SQ) (F'' := mm_SQ) (pc' := 2054) dL_law_2051 rfl mfL_receivedUnits rfl lx_306 ⟨Nat.le_of_ble_eq_true rfl, Nat.le_of_ble_eq_true rfl⟩ (Nat.le_of_ble_eq_true rfl) (fun z => z) (mm_RQ (fun t => rL_receivedUnits (q := (360, t)) ((mh_I h 360 (Int32.toNatClampNeg ((i + 1)) + 1))) h (Nat.le_of_ble_eq_true rfl))) (fun x2 e3 => Or.inl ⟨_, _, rfl, fun z => z, ?_⟩)
  show mm_E2 _ _ _ _ _ [.int x2.1] x2.2 _ _
  refine me_istore (pc' := 2056) (i := 6) (L' := [some (.ref 360), some (.ref 0), some (.ref 352), some (.ref 358), some (.ref 359), some (.int i), some (.int x2.1), none, none]) dL_law_2054 rfl (Nat.le_of_ble_eq_true rfl) (Nat.le_of_ble_eq_true rfl) rfl ?_
  refine me_aload_n (pc' := 2057) (i := 2) dL_law_2056 rfl rfl rfl ?_
  refine me_aload_n (pc' := 2058) (i := 0) dL_law_2057 rfl rfl rfl ?_
  refine me_iload (pc' := 2060) (i := 5) dL_law_2058 rfl rfl ?_
  refine me_iconst (pc' := 2061) (v := 1) dL_law_2060 rfl kc_i1 ?_
  refine me_iadd (pc' := 2062) dL_law_2061 rfl ?_
  refine mm_guard (fun c4 => ?_)
  refine me_scld (pc' := 2063) dL_law_2062 rfl c4 ?_
  refine me_callV (As := [.int (mh_I x2.2 360 (Int32.toNatClampNeg ((i + 1)) + 1))]) (st := []) (F' := mm_SQ) (G' := mm_SQ) (F'' := mm_SQ) (pc' := 2066) dL_law_2063 rfl mfX11_receivedUnits rfl lkL_308 kd_352 rfl (mm_ltQ kd_352) ⟨Nat.le_of_ble_eq_true rfl, Nat.le_of_ble_eq_true rfl⟩ (Nat.le_of_ble_eq_true rfl) (fun z => z) (mm_RQ (fun t => rX11_receivedUnits (q := (360, t)) ((mh_I x2.2 360 (Int32.toNatClampNeg ((i + 1)) + 1))) x2.2 (Nat.le_of_ble_eq_true rfl))) (fun x5 e6 => Or.inl ⟨_, _, rfl, fun z => z, ?_⟩)
  show mm_E2 _ _ _ _ _ [.int x5.1] x5.2 _ _
  refine me_istore (pc' := 2068) (i := 7) (L' := [some (.ref 360), some (.ref 0), some (.ref 352), some (.ref 358), some (.ref 359), some (.int i), some (.int x2.1), some (.int x5.1), none]) dL_law_2066 rfl (Nat.le_of_ble_eq_true rfl) (Nat.le_of_ble_eq_true rfl) rfl ?_
  refine me_aload_n (pc' := 2069) (i := 2) dL_law_2068 rfl rfl rfl ?_
  refine me_callV (As := []) (st := []) (F' := mm_SQ) (G' := mm_SQ) (F'' := mm_SQ) (pc' := 2072) dL_law_2069 rfl mfX11_thrown rfl lkL_186 kd_352 rfl (mm_ltQ kd_352) ⟨Nat.le_of_ble_eq_true rfl, Nat.le_of_ble_eq_true rfl⟩ (Nat.le_of_ble_eq_true rfl) (fun z => z) (mm_RQ (fun t => rX11_thrown (q := (360, t)) x5.2 (Nat.le_of_ble_eq_true rfl))) (fun x7 e8 => Or.inl ⟨_, _, rfl, fun z => z, ?_⟩)
  show mm_E2 _ _ _ _ _ [.int x7] x5.2 _ _
  refine me_iload (pc' := 2074) (i := 6) dL_law_2072 rfl rfl ?_
  refine me_icmp_eq (pc' := 2077) (tgt := 2079) dL_law_2074 (by decide) rfl (fun c9 => ?_) (fun c9 => ?_)
  · refine me_iload (pc' := 2081) (i := 6) dL_law_2079 rfl rfl ?_
    refine mm_jnI (fun (j109 : Unit → Option (Bool × mm_H)) => ∀ (_ : Unit), mm_E2 mm_SQ mm_SQ mL_law 2096 [some (.ref 360), some (.ref 0), some (.ref 352), some (.ref 358), some (.ref 359), some (.int i), none, none, none] [] x5.2 (j109 ()) lf_ze) ?_ (fun j10 j10p => ?_)
    · intro _
      refine me_goto (tgt := 3496) dL_law_2096 (by decide) ?_
      exact jp x5.2
    refine me_if_ne (pc' := 2084) (tgt := 2096) dL_law_2081 (by decide) rfl (fun c11 => ?_) (fun c11 => ?_)
    · exact mm_maskB [true, true, true, true, true, true, false, false, false] (j10p ())
    · refine me_aload_n (pc' := 2085) (i := 3) dL_law_2084 rfl rfl rfl ?_
      refine me_iconst (pc' := 2086) (v := 0) dL_law_2085 rfl kc_i0 ?_
      refine mm_guard (fun c12 => ?_)
      refine me_lald (pc' := 2087) dL_law_2086 rfl kd_358 (mm_ltQ kd_358) (mm_ibd_of c12) ?_
      refine me_iload (pc' := 2089) (i := 7) dL_law_2087 rfl rfl ?_
      refine me_i2l (pc' := 2090) dL_law_2089 rfl ?_
      refine me_lcmp (pc' := 2091) dL_law_2090 rfl ?_
      refine me_if_eq (pc' := 2094) (tgt := 2096) dL_law_2091 (by decide) rfl (fun c13 => ?_) (fun c13 => ?_)
      · exact mm_maskB [true, true, true, true, true, true, false, false, false] (j10p ())
      · refine me_iconst (pc' := 2095) (v := 0) dL_law_2094 rfl kc_i0 ?_
        exact me_zret (b := false) dL_law_2095 rfl (fun z => z) rfl
  · refine me_iconst (pc' := 2078) (v := 0) dL_law_2077 rfl kc_i0 ?_
    exact me_zret (b := false) dL_law_2078 rfl (fun z => z) rfl
def gL_c2099 (i : Int32) (j : mm_H → Option (Bool × mm_H)) (h : mm_H) : Option (Bool × mm_H) :=
if mm_isb ((i + 1)) (mh_I h 360 0) = true then
(gL_deliveredUnits ((mh_I h 360 (Int32.toNatClampNeg ((i + 1)) + 1))) h).bind (fun (x2 : (Int32 × mm_H)) =>
if mm_isb ((i + 1)) (mh_I x2.2 360 0) = true then
(gX11_deliveredUnits ((mh_I x2.2 360 (Int32.toNatClampNeg ((i + 1)) + 1))) x2.2).bind (fun (x5 : (Int32 × mm_H)) =>
(gX11_thrown x5.2).bind (fun (x7 : Int32) =>
if x7 = x2.1 then
mm_jn (fun (_ : Unit) =>
j x5.2) (fun (j10 : Unit → Option (Bool × mm_H)) =>
if x2.1 = 0 then
if mm_ibd 0 1 = true then
if (lg_cmp ((mh_J x5.2 358 (Int32.toNatClampNeg (0)))) ((x5.1).toInt64)) = 0 then
j10 ()
else
some (false, x5.2) else none
else
j10 ())
else
some (false, x5.2))) else none) else none
theorem rL_c2099 (i : Int32) (j : mm_H → Option (Bool × mm_H)) (jp : ∀ h, mm_E2 mm_SQ mm_SQ mL_law 3496 [some (.ref 360), some (.ref 0), some (.ref 352), some (.ref 358), some (.ref 359), some (.int i), none, none, none] [] h (j h) lf_ze) (h : mm_H) : mm_E2 mm_SQ mm_SQ mL_law 2099 [some (.ref 360), some (.ref 0), some (.ref 352), some (.ref 358), some (.ref 359), some (.int i), none, none, none] [] h (gL_c2099 i j h) lf_ze := by
  unfold gL_c2099
  refine me_aload_n (pc' := 2100) (i := 1) dL_law_2099 rfl rfl rfl ?_
  refine me_aload_n (pc' := 2101) (i := 0) dL_law_2100 rfl rfl rfl ?_
  refine me_iload (pc' := 2103) (i := 5) dL_law_2101 rfl rfl ?_
  refine me_iconst (pc' := 2104) (v := 1) dL_law_2103 rfl kc_i1 ?_
  refine me_iadd (pc' := 2105) dL_law_2104 rfl ?_
  refine mm_guard (fun c1 => ?_)
  refine me_scld (pc' := 2106) dL_law_2105 rfl c1 ?_
  refine me_aload_n (pc' := 2107) (i := 3) dL_law_2106 rfl rfl rfl ?_
  refine me_callSX (As := [.ref 0, .int (mh_I h 360 (Int32.toNatClampNeg ((i + 1)) + 1)), .ref 358]) (st := []) (F' := mm_SQ) (G' := mm_SQ) (F'' := mm_SQ) (pc' := 2110) dL_law_2107 rfl mfL_deliveredUnits rfl lx_309 ⟨Nat.le_of_ble_eq_true rfl, Nat.le_of_ble_eq_true rfl⟩ (Nat.le_of_ble_eq_true rfl) (fun z => z) (mm_RQ (fun t => rL_deliveredUnits (q := (360, t)) ((mh_I h 360 (Int32.toNatClampNeg ((i + 1)) + 1))) h (Nat.le_of_ble_eq_true rfl))) (fun x2 e3 => Or.inl ⟨_, _, rfl, fun z => z, ?_⟩)
  show mm_E2 _ _ _ _ _ [.int x2.1] x2.2 _ _
  refine me_istore (pc' := 2112) (i := 6) (L' := [some (.ref 360), some (.ref 0), some (.ref 352), some (.ref 358), some (.ref 359), some (.int i), some (.int x2.1), none, none]) dL_law_2110 rfl (Nat.le_of_ble_eq_true rfl) (Nat.le_of_ble_eq_true rfl) rfl ?_
  refine me_aload_n (pc' := 2113) (i := 2) dL_law_2112 rfl rfl rfl ?_
  refine me_aload_n (pc' := 2114) (i := 0) dL_law_2113 rfl rfl rfl ?_
  refine me_iload (pc' := 2116) (i := 5) dL_law_2114 rfl rfl ?_
  refine me_iconst (pc' := 2117) (v := 1) dL_law_2116 rfl kc_i1 ?_
  refine me_iadd (pc' := 2118) dL_law_2117 rfl ?_
  refine mm_guard (fun c4 => ?_)
  refine me_scld (pc' := 2119) dL_law_2118 rfl c4 ?_
  refine me_callV (As := [.int (mh_I x2.2 360 (Int32.toNatClampNeg ((i + 1)) + 1))]) (st := []) (F' := mm_SQ) (G' := mm_SQ) (F'' := mm_SQ) (pc' := 2122) dL_law_2119 rfl mfX11_deliveredUnits rfl lkL_311 kd_352 rfl (mm_ltQ kd_352) ⟨Nat.le_of_ble_eq_true rfl, Nat.le_of_ble_eq_true rfl⟩ (Nat.le_of_ble_eq_true rfl) (fun z => z) (mm_RQ (fun t => rX11_deliveredUnits (q := (360, t)) ((mh_I x2.2 360 (Int32.toNatClampNeg ((i + 1)) + 1))) x2.2 (Nat.le_of_ble_eq_true rfl))) (fun x5 e6 => Or.inl ⟨_, _, rfl, fun z => z, ?_⟩)
  show mm_E2 _ _ _ _ _ [.int x5.1] x5.2 _ _
  refine me_istore (pc' := 2124) (i := 7) (L' := [some (.ref 360), some (.ref 0), some (.ref 352), some (.ref 358), some (.ref 359), some (.int i), some (.int x2.1), some (.int x5.1), none]) dL_law_2122 rfl (Nat.le_of_ble_eq_true rfl) (Nat.le_of_ble_eq_true rfl) rfl ?_
  refine me_aload_n (pc' := 2125) (i := 2) dL_law_2124 rfl rfl rfl ?_
  refine me_callV (As := []) (st := []) (F' := mm_SQ) (G' := mm_SQ) (F'' := mm_SQ) (pc' := 2128) dL_law_2125 rfl mfX11_thrown rfl lkL_186 kd_352 rfl (mm_ltQ kd_352) ⟨Nat.le_of_ble_eq_true rfl, Nat.le_of_ble_eq_true rfl⟩ (Nat.le_of_ble_eq_true rfl) (fun z => z) (mm_RQ (fun t => rX11_thrown (q := (360, t)) x5.2 (Nat.le_of_ble_eq_true rfl))) (fun x7 e8 => Or.inl ⟨_, _, rfl, fun z => z, ?_⟩)
  show mm_E2 _ _ _ _ _ [.int x7] x5.2 _ _
  refine me_iload (pc' := 2130) (i := 6) dL_law_2128 rfl rfl ?_
  refine me_icmp_eq (pc' := 2133) (tgt := 2135) dL_law_2130 (by decide) rfl (fun c9 => ?_) (fun c9 => ?_)
  · refine me_iload (pc' := 2137) (i := 6) dL_law_2135 rfl rfl ?_
    refine mm_jnI (fun (j109 : Unit → Option (Bool × mm_H)) => ∀ (_ : Unit), mm_E2 mm_SQ mm_SQ mL_law 2152 [some (.ref 360), some (.ref 0), some (.ref 352), some (.ref 358), some (.ref 359), some (.int i), none, none, none] [] x5.2 (j109 ()) lf_ze) ?_ (fun j10 j10p => ?_)
    · intro _
      refine me_goto (tgt := 3496) dL_law_2152 (by decide) ?_
      exact jp x5.2
    refine me_if_ne (pc' := 2140) (tgt := 2152) dL_law_2137 (by decide) rfl (fun c11 => ?_) (fun c11 => ?_)
    · exact mm_maskB [true, true, true, true, true, true, false, false, false] (j10p ())
    · refine me_aload_n (pc' := 2141) (i := 3) dL_law_2140 rfl rfl rfl ?_
      refine me_iconst (pc' := 2142) (v := 0) dL_law_2141 rfl kc_i0 ?_
      refine mm_guard (fun c12 => ?_)
      refine me_lald (pc' := 2143) dL_law_2142 rfl kd_358 (mm_ltQ kd_358) (mm_ibd_of c12) ?_
      refine me_iload (pc' := 2145) (i := 7) dL_law_2143 rfl rfl ?_
      refine me_i2l (pc' := 2146) dL_law_2145 rfl ?_
      refine me_lcmp (pc' := 2147) dL_law_2146 rfl ?_
      refine me_if_eq (pc' := 2150) (tgt := 2152) dL_law_2147 (by decide) rfl (fun c13 => ?_) (fun c13 => ?_)
      · exact mm_maskB [true, true, true, true, true, true, false, false, false] (j10p ())
      · refine me_iconst (pc' := 2151) (v := 0) dL_law_2150 rfl kc_i0 ?_
        exact me_zret (b := false) dL_law_2151 rfl (fun z => z) rfl
  · refine me_iconst (pc' := 2134) (v := 0) dL_law_2133 rfl kc_i0 ?_
    exact me_zret (b := false) dL_law_2134 rfl (fun z => z) rfl
def gL_c2155 (i : Int32) (j : mm_H → Option (Bool × mm_H)) (h : mm_H) : Option (Bool × mm_H) :=
if mm_isb ((i + 1)) (mh_I h 360 0) = true then
(gL_writtenOffUnits ((mh_I h 360 (Int32.toNatClampNeg ((i + 1)) + 1))) h).bind (fun (x2 : (Int32 × mm_H)) =>
if mm_isb ((i + 1)) (mh_I x2.2 360 0) = true then
(gX11_writtenOffUnits ((mh_I x2.2 360 (Int32.toNatClampNeg ((i + 1)) + 1))) x2.2).bind (fun (x5 : (Int32 × mm_H)) =>
(gX11_thrown x5.2).bind (fun (x7 : Int32) =>
if x7 = x2.1 then
mm_jn (fun (_ : Unit) =>
j x5.2) (fun (j10 : Unit → Option (Bool × mm_H)) =>
if x2.1 = 0 then
if mm_ibd 0 1 = true then
if (lg_cmp ((mh_J x5.2 358 (Int32.toNatClampNeg (0)))) ((x5.1).toInt64)) = 0 then
j10 ()
else
some (false, x5.2) else none
else
j10 ())
else
some (false, x5.2))) else none) else none
theorem rL_c2155 (i : Int32) (j : mm_H → Option (Bool × mm_H)) (jp : ∀ h, mm_E2 mm_SQ mm_SQ mL_law 3496 [some (.ref 360), some (.ref 0), some (.ref 352), some (.ref 358), some (.ref 359), some (.int i), none, none, none] [] h (j h) lf_ze) (h : mm_H) : mm_E2 mm_SQ mm_SQ mL_law 2155 [some (.ref 360), some (.ref 0), some (.ref 352), some (.ref 358), some (.ref 359), some (.int i), none, none, none] [] h (gL_c2155 i j h) lf_ze := by
  unfold gL_c2155
  refine me_aload_n (pc' := 2156) (i := 1) dL_law_2155 rfl rfl rfl ?_
  refine me_aload_n (pc' := 2157) (i := 0) dL_law_2156 rfl rfl rfl ?_
  refine me_iload (pc' := 2159) (i := 5) dL_law_2157 rfl rfl ?_
  refine me_iconst (pc' := 2160) (v := 1) dL_law_2159 rfl kc_i1 ?_
  refine me_iadd (pc' := 2161) dL_law_2160 rfl ?_
  refine mm_guard (fun c1 => ?_)
  refine me_scld (pc' := 2162) dL_law_2161 rfl c1 ?_
  refine me_aload_n (pc' := 2163) (i := 3) dL_law_2162 rfl rfl rfl ?_
  refine me_callSX (As := [.ref 0, .int (mh_I h 360 (Int32.toNatClampNeg ((i + 1)) + 1)), .ref 358]) (st := []) (F' := mm_SQ) (G' := mm_SQ) (F'' := mm_SQ) (pc' := 2166) dL_law_2163 rfl mfL_writtenOffUnits rfl lx_312 ⟨Nat.le_of_ble_eq_true rfl, Nat.le_of_ble_eq_true rfl⟩ (Nat.le_of_ble_eq_true rfl) (fun z => z) (mm_RQ (fun t => rL_writtenOffUnits (q := (360, t)) ((mh_I h 360 (Int32.toNatClampNeg ((i + 1)) + 1))) h (Nat.le_of_ble_eq_true rfl))) (fun x2 e3 => Or.inl ⟨_, _, rfl, fun z => z, ?_⟩)
  show mm_E2 _ _ _ _ _ [.int x2.1] x2.2 _ _
  refine me_istore (pc' := 2168) (i := 6) (L' := [some (.ref 360), some (.ref 0), some (.ref 352), some (.ref 358), some (.ref 359), some (.int i), some (.int x2.1), none, none]) dL_law_2166 rfl (Nat.le_of_ble_eq_true rfl) (Nat.le_of_ble_eq_true rfl) rfl ?_
  refine me_aload_n (pc' := 2169) (i := 2) dL_law_2168 rfl rfl rfl ?_
  refine me_aload_n (pc' := 2170) (i := 0) dL_law_2169 rfl rfl rfl ?_
  refine me_iload (pc' := 2172) (i := 5) dL_law_2170 rfl rfl ?_
  refine me_iconst (pc' := 2173) (v := 1) dL_law_2172 rfl kc_i1 ?_
  refine me_iadd (pc' := 2174) dL_law_2173 rfl ?_
  refine mm_guard (fun c4 => ?_)
  refine me_scld (pc' := 2175) dL_law_2174 rfl c4 ?_
  refine me_callV (As := [.int (mh_I x2.2 360 (Int32.toNatClampNeg ((i + 1)) + 1))]) (st := []) (F' := mm_SQ) (G' := mm_SQ) (F'' := mm_SQ) (pc' := 2178) dL_law_2175 rfl mfX11_writtenOffUnits rfl lkL_314 kd_352 rfl (mm_ltQ kd_352) ⟨Nat.le_of_ble_eq_true rfl, Nat.le_of_ble_eq_true rfl⟩ (Nat.le_of_ble_eq_true rfl) (fun z => z) (mm_RQ (fun t => rX11_writtenOffUnits (q := (360, t)) ((mh_I x2.2 360 (Int32.toNatClampNeg ((i + 1)) + 1))) x2.2 (Nat.le_of_ble_eq_true rfl))) (fun x5 e6 => Or.inl ⟨_, _, rfl, fun z => z, ?_⟩)
  show mm_E2 _ _ _ _ _ [.int x5.1] x5.2 _ _
  refine me_istore (pc' := 2180) (i := 7) (L' := [some (.ref 360), some (.ref 0), some (.ref 352), some (.ref 358), some (.ref 359), some (.int i), some (.int x2.1), some (.int x5.1), none]) dL_law_2178 rfl (Nat.le_of_ble_eq_true rfl) (Nat.le_of_ble_eq_true rfl) rfl ?_
  refine me_aload_n (pc' := 2181) (i := 2) dL_law_2180 rfl rfl rfl ?_
  refine me_callV (As := []) (st := []) (F' := mm_SQ) (G' := mm_SQ) (F'' := mm_SQ) (pc' := 2184) dL_law_2181 rfl mfX11_thrown rfl lkL_186 kd_352 rfl (mm_ltQ kd_352) ⟨Nat.le_of_ble_eq_true rfl, Nat.le_of_ble_eq_true rfl⟩ (Nat.le_of_ble_eq_true rfl) (fun z => z) (mm_RQ (fun t => rX11_thrown (q := (360, t)) x5.2 (Nat.le_of_ble_eq_true rfl))) (fun x7 e8 => Or.inl ⟨_, _, rfl, fun z => z, ?_⟩)
  show mm_E2 _ _ _ _ _ [.int x7] x5.2 _ _
  refine me_iload (pc' := 2186) (i := 6) dL_law_2184 rfl rfl ?_
  refine me_icmp_eq (pc' := 2189) (tgt := 2191) dL_law_2186 (by decide) rfl (fun c9 => ?_) (fun c9 => ?_)
  · refine me_iload (pc' := 2193) (i := 6) dL_law_2191 rfl rfl ?_
    refine mm_jnI (fun (j109 : Unit → Option (Bool × mm_H)) => ∀ (_ : Unit), mm_E2 mm_SQ mm_SQ mL_law 2208 [some (.ref 360), some (.ref 0), some (.ref 352), some (.ref 358), some (.ref 359), some (.int i), none, none, none] [] x5.2 (j109 ()) lf_ze) ?_ (fun j10 j10p => ?_)
    · intro _
      refine me_goto (tgt := 3496) dL_law_2208 (by decide) ?_
      exact jp x5.2
    refine me_if_ne (pc' := 2196) (tgt := 2208) dL_law_2193 (by decide) rfl (fun c11 => ?_) (fun c11 => ?_)
    · exact mm_maskB [true, true, true, true, true, true, false, false, false] (j10p ())
    · refine me_aload_n (pc' := 2197) (i := 3) dL_law_2196 rfl rfl rfl ?_
      refine me_iconst (pc' := 2198) (v := 0) dL_law_2197 rfl kc_i0 ?_
      refine mm_guard (fun c12 => ?_)
      refine me_lald (pc' := 2199) dL_law_2198 rfl kd_358 (mm_ltQ kd_358) (mm_ibd_of c12) ?_
      refine me_iload (pc' := 2201) (i := 7) dL_law_2199 rfl rfl ?_
      refine me_i2l (pc' := 2202) dL_law_2201 rfl ?_
      refine me_lcmp (pc' := 2203) dL_law_2202 rfl ?_
      refine me_if_eq (pc' := 2206) (tgt := 2208) dL_law_2203 (by decide) rfl (fun c13 => ?_) (fun c13 => ?_)
      · exact mm_maskB [true, true, true, true, true, true, false, false, false] (j10p ())
      · refine me_iconst (pc' := 2207) (v := 0) dL_law_2206 rfl kc_i0 ?_
        exact me_zret (b := false) dL_law_2207 rfl (fun z => z) rfl
  · refine me_iconst (pc' := 2190) (v := 0) dL_law_2189 rfl kc_i0 ?_
    exact me_zret (b := false) dL_law_2190 rfl (fun z => z) rfl
def gL_c2211 (i : Int32) (j : mm_H → Option (Bool × mm_H)) (h : mm_H) : Option (Bool × mm_H) :=
if mm_isb ((i + 1)) (mh_I h 360 0) = true then
(gL_adjustment ((mh_I h 360 (Int32.toNatClampNeg ((i + 1)) + 1))) h).bind (fun (x2 : (Int32 × mm_H)) =>
if mm_isb ((i + 1)) (mh_I x2.2 360 0) = true then
(gX11_adjustment ((mh_I x2.2 360 (Int32.toNatClampNeg ((i + 1)) + 1))) x2.2).bind (fun (x5 : (Int32 × mm_H)) =>
(gX11_thrown x5.2).bind (fun (x7 : Int32) =>
if x7 = x2.1 then
mm_jn (fun (_ : Unit) =>
j x5.2) (fun (j10 : Unit → Option (Bool × mm_H)) =>
if x2.1 = 0 then
if mm_ibd 0 1 = true then
if (lg_cmp ((mh_J x5.2 358 (Int32.toNatClampNeg (0)))) ((x5.1).toInt64)) = 0 then
j10 ()
else
some (false, x5.2) else none
else
j10 ())
else
some (false, x5.2))) else none) else none
theorem rL_c2211 (i : Int32) (j : mm_H → Option (Bool × mm_H)) (jp : ∀ h, mm_E2 mm_SQ mm_SQ mL_law 3496 [some (.ref 360), some (.ref 0), some (.ref 352), some (.ref 358), some (.ref 359), some (.int i), none, none, none] [] h (j h) lf_ze) (h : mm_H) : mm_E2 mm_SQ mm_SQ mL_law 2211 [some (.ref 360), some (.ref 0), some (.ref 352), some (.ref 358), some (.ref 359), some (.int i), none, none, none] [] h (gL_c2211 i j h) lf_ze := by
  unfold gL_c2211
  refine me_aload_n (pc' := 2212) (i := 1) dL_law_2211 rfl rfl rfl ?_
  refine me_aload_n (pc' := 2213) (i := 0) dL_law_2212 rfl rfl rfl ?_
  refine me_iload (pc' := 2215) (i := 5) dL_law_2213 rfl rfl ?_
  refine me_iconst (pc' := 2216) (v := 1) dL_law_2215 rfl kc_i1 ?_
  refine me_iadd (pc' := 2217) dL_law_2216 rfl ?_
  refine mm_guard (fun c1 => ?_)
  refine me_scld (pc' := 2218) dL_law_2217 rfl c1 ?_
  refine me_aload_n (pc' := 2219) (i := 3) dL_law_2218 rfl rfl rfl ?_
  refine me_callSX (As := [.ref 0, .int (mh_I h 360 (Int32.toNatClampNeg ((i + 1)) + 1)), .ref 358]) (st := []) (F' := mm_SQ) (G' := mm_SQ) (F'' := mm_SQ) (pc' := 2222) dL_law_2219 rfl mfL_adjustment rfl lx_315 ⟨Nat.le_of_ble_eq_true rfl, Nat.le_of_ble_eq_true rfl⟩ (Nat.le_of_ble_eq_true rfl) (fun z => z) (mm_RQ (fun t => rL_adjustment (q := (360, t)) ((mh_I h 360 (Int32.toNatClampNeg ((i + 1)) + 1))) h (Nat.le_of_ble_eq_true rfl))) (fun x2 e3 => Or.inl ⟨_, _, rfl, fun z => z, ?_⟩)
  show mm_E2 _ _ _ _ _ [.int x2.1] x2.2 _ _
  refine me_istore (pc' := 2224) (i := 6) (L' := [some (.ref 360), some (.ref 0), some (.ref 352), some (.ref 358), some (.ref 359), some (.int i), some (.int x2.1), none, none]) dL_law_2222 rfl (Nat.le_of_ble_eq_true rfl) (Nat.le_of_ble_eq_true rfl) rfl ?_
  refine me_aload_n (pc' := 2225) (i := 2) dL_law_2224 rfl rfl rfl ?_
  refine me_aload_n (pc' := 2226) (i := 0) dL_law_2225 rfl rfl rfl ?_
  refine me_iload (pc' := 2228) (i := 5) dL_law_2226 rfl rfl ?_
  refine me_iconst (pc' := 2229) (v := 1) dL_law_2228 rfl kc_i1 ?_
  refine me_iadd (pc' := 2230) dL_law_2229 rfl ?_
  refine mm_guard (fun c4 => ?_)
  refine me_scld (pc' := 2231) dL_law_2230 rfl c4 ?_
  refine me_callV (As := [.int (mh_I x2.2 360 (Int32.toNatClampNeg ((i + 1)) + 1))]) (st := []) (F' := mm_SQ) (G' := mm_SQ) (F'' := mm_SQ) (pc' := 2234) dL_law_2231 rfl mfX11_adjustment rfl lkL_317 kd_352 rfl (mm_ltQ kd_352) ⟨Nat.le_of_ble_eq_true rfl, Nat.le_of_ble_eq_true rfl⟩ (Nat.le_of_ble_eq_true rfl) (fun z => z) (mm_RQ (fun t => rX11_adjustment (q := (360, t)) ((mh_I x2.2 360 (Int32.toNatClampNeg ((i + 1)) + 1))) x2.2 (Nat.le_of_ble_eq_true rfl))) (fun x5 e6 => Or.inl ⟨_, _, rfl, fun z => z, ?_⟩)
  show mm_E2 _ _ _ _ _ [.int x5.1] x5.2 _ _
  refine me_istore (pc' := 2236) (i := 7) (L' := [some (.ref 360), some (.ref 0), some (.ref 352), some (.ref 358), some (.ref 359), some (.int i), some (.int x2.1), some (.int x5.1), none]) dL_law_2234 rfl (Nat.le_of_ble_eq_true rfl) (Nat.le_of_ble_eq_true rfl) rfl ?_
  refine me_aload_n (pc' := 2237) (i := 2) dL_law_2236 rfl rfl rfl ?_
  refine me_callV (As := []) (st := []) (F' := mm_SQ) (G' := mm_SQ) (F'' := mm_SQ) (pc' := 2240) dL_law_2237 rfl mfX11_thrown rfl lkL_186 kd_352 rfl (mm_ltQ kd_352) ⟨Nat.le_of_ble_eq_true rfl, Nat.le_of_ble_eq_true rfl⟩ (Nat.le_of_ble_eq_true rfl) (fun z => z) (mm_RQ (fun t => rX11_thrown (q := (360, t)) x5.2 (Nat.le_of_ble_eq_true rfl))) (fun x7 e8 => Or.inl ⟨_, _, rfl, fun z => z, ?_⟩)
  show mm_E2 _ _ _ _ _ [.int x7] x5.2 _ _
  refine me_iload (pc' := 2242) (i := 6) dL_law_2240 rfl rfl ?_
  refine me_icmp_eq (pc' := 2245) (tgt := 2247) dL_law_2242 (by decide) rfl (fun c9 => ?_) (fun c9 => ?_)
  · refine me_iload (pc' := 2249) (i := 6) dL_law_2247 rfl rfl ?_
    refine mm_jnI (fun (j109 : Unit → Option (Bool × mm_H)) => ∀ (_ : Unit), mm_E2 mm_SQ mm_SQ mL_law 2264 [some (.ref 360), some (.ref 0), some (.ref 352), some (.ref 358), some (.ref 359), some (.int i), none, none, none] [] x5.2 (j109 ()) lf_ze) ?_ (fun j10 j10p => ?_)
    · intro _
      refine me_goto (tgt := 3496) dL_law_2264 (by decide) ?_
      exact jp x5.2
    refine me_if_ne (pc' := 2252) (tgt := 2264) dL_law_2249 (by decide) rfl (fun c11 => ?_) (fun c11 => ?_)
    · exact mm_maskB [true, true, true, true, true, true, false, false, false] (j10p ())
    · refine me_aload_n (pc' := 2253) (i := 3) dL_law_2252 rfl rfl rfl ?_
      refine me_iconst (pc' := 2254) (v := 0) dL_law_2253 rfl kc_i0 ?_
      refine mm_guard (fun c12 => ?_)
      refine me_lald (pc' := 2255) dL_law_2254 rfl kd_358 (mm_ltQ kd_358) (mm_ibd_of c12) ?_
      refine me_iload (pc' := 2257) (i := 7) dL_law_2255 rfl rfl ?_
      refine me_i2l (pc' := 2258) dL_law_2257 rfl ?_
      refine me_lcmp (pc' := 2259) dL_law_2258 rfl ?_
      refine me_if_eq (pc' := 2262) (tgt := 2264) dL_law_2259 (by decide) rfl (fun c13 => ?_) (fun c13 => ?_)
      · exact mm_maskB [true, true, true, true, true, true, false, false, false] (j10p ())
      · refine me_iconst (pc' := 2263) (v := 0) dL_law_2262 rfl kc_i0 ?_
        exact me_zret (b := false) dL_law_2263 rfl (fun z => z) rfl
  · refine me_iconst (pc' := 2246) (v := 0) dL_law_2245 rfl kc_i0 ?_
    exact me_zret (b := false) dL_law_2246 rfl (fun z => z) rfl
def gL_c2267 (i : Int32) (j : mm_H → Option (Bool × mm_H)) (h : mm_H) : Option (Bool × mm_H) :=
if mm_isb ((i + 1)) (mh_I h 360 0) = true then
(gL_meanCost ((mh_I h 360 (Int32.toNatClampNeg ((i + 1)) + 1))) h).bind (fun (x2 : (Int32 × mm_H)) =>
if mm_isb ((i + 1)) (mh_I x2.2 360 0) = true then
(gX11_meanCost ((mh_I x2.2 360 (Int32.toNatClampNeg ((i + 1)) + 1))) x2.2).bind (fun (x5 : (UInt64 × mm_H)) =>
(gX11_thrown x5.2).bind (fun (x7 : Int32) =>
if x7 = x2.1 then
mm_jn (fun (_ : Unit) =>
j x5.2) (fun (j10 : Unit → Option (Bool × mm_H)) =>
if x2.1 = 0 then
if mm_ibd 0 1 = true then
if (Op.cmpValue (FP.dcmp ((mh_D x5.2 359 (Int32.toNatClampNeg (0)))) x5.1) .l) = 0 then
j10 ()
else
if mm_ibd 0 1 = true then
if mm_ibd 0 1 = true then
if (Op.cmpValue (FP.dcmp ((mh_D x5.2 359 (Int32.toNatClampNeg (0)))) ((mh_D x5.2 359 (Int32.toNatClampNeg (0))))) .l) = 0 then
some (false, x5.2)
else
if (Op.cmpValue (FP.dcmp x5.1 x5.1) .l) = 0 then
some (false, x5.2)
else
j10 () else none else none else none
else
j10 ())
else
some (false, x5.2))) else none) else none
theorem rL_c2267 (i : Int32) (j : mm_H → Option (Bool × mm_H)) (jp : ∀ h, mm_E2 mm_SQ mm_SQ mL_law 3496 [some (.ref 360), some (.ref 0), some (.ref 352), some (.ref 358), some (.ref 359), some (.int i), none, none, none] [] h (j h) lf_ze) (h : mm_H) : mm_E2 mm_SQ mm_SQ mL_law 2267 [some (.ref 360), some (.ref 0), some (.ref 352), some (.ref 358), some (.ref 359), some (.int i), none, none, none] [] h (gL_c2267 i j h) lf_ze := by
  unfold gL_c2267
  refine me_aload_n (pc' := 2268) (i := 1) dL_law_2267 rfl rfl rfl ?_
  refine me_aload_n (pc' := 2269) (i := 0) dL_law_2268 rfl rfl rfl ?_
  refine me_iload (pc' := 2271) (i := 5) dL_law_2269 rfl rfl ?_
  refine me_iconst (pc' := 2272) (v := 1) dL_law_2271 rfl kc_i1 ?_
  refine me_iadd (pc' := 2273) dL_law_2272 rfl ?_
  refine mm_guard (fun c1 => ?_)
  refine me_scld (pc' := 2274) dL_law_2273 rfl c1 ?_
  refine me_aload (pc' := 2276) (i := 4) dL_law_2274 rfl rfl ?_
  refine me_callSX (As := [.ref 0, .int (mh_I h 360 (Int32.toNatClampNeg ((i + 1)) + 1)), .ref 359]) (st := []) (F' := mm_SQ) (G' := mm_SQ) (F'' := mm_SQ) (pc' := 2279) dL_law_2276 rfl mfL_meanCost rfl lx_318 ⟨Nat.le_of_ble_eq_true rfl, Nat.le_of_ble_eq_true rfl⟩ (Nat.le_of_ble_eq_true rfl) (fun z => z) (mm_RQ (fun t => rL_meanCost (q := (360, t)) ((mh_I h 360 (Int32.toNatClampNeg ((i + 1)) + 1))) h (Nat.le_of_ble_eq_true rfl))) (fun x2 e3 => Or.inl ⟨_, _, rfl, fun z => z, ?_⟩)
  show mm_E2 _ _ _ _ _ [.int x2.1] x2.2 _ _
  refine me_istore (pc' := 2281) (i := 6) (L' := [some (.ref 360), some (.ref 0), some (.ref 352), some (.ref 358), some (.ref 359), some (.int i), some (.int x2.1), none, none]) dL_law_2279 rfl (Nat.le_of_ble_eq_true rfl) (Nat.le_of_ble_eq_true rfl) rfl ?_
  refine me_aload_n (pc' := 2282) (i := 2) dL_law_2281 rfl rfl rfl ?_
  refine me_aload_n (pc' := 2283) (i := 0) dL_law_2282 rfl rfl rfl ?_
  refine me_iload (pc' := 2285) (i := 5) dL_law_2283 rfl rfl ?_
  refine me_iconst (pc' := 2286) (v := 1) dL_law_2285 rfl kc_i1 ?_
  refine me_iadd (pc' := 2287) dL_law_2286 rfl ?_
  refine mm_guard (fun c4 => ?_)
  refine me_scld (pc' := 2288) dL_law_2287 rfl c4 ?_
  refine me_callV (As := [.int (mh_I x2.2 360 (Int32.toNatClampNeg ((i + 1)) + 1))]) (st := []) (F' := mm_SQ) (G' := mm_SQ) (F'' := mm_SQ) (pc' := 2291) dL_law_2288 rfl mfX11_meanCost rfl lkL_321 kd_352 rfl (mm_ltQ kd_352) ⟨Nat.le_of_ble_eq_true rfl, Nat.le_of_ble_eq_true rfl⟩ (Nat.le_of_ble_eq_true rfl) (fun z => z) (mm_RQ (fun t => rX11_meanCost (q := (360, t)) ((mh_I x2.2 360 (Int32.toNatClampNeg ((i + 1)) + 1))) x2.2 (Nat.le_of_ble_eq_true rfl))) (fun x5 e6 => Or.inl ⟨_, _, rfl, fun z => z, ?_⟩)
  show mm_E2 _ _ _ _ _ [.double x5.1] x5.2 _ _
  refine me_dstore (pc' := 2293) (i := 7) (L' := [some (.ref 360), some (.ref 0), some (.ref 352), some (.ref 358), some (.ref 359), some (.int i), some (.int x2.1), some (.double x5.1), none]) dL_law_2291 rfl (Nat.le_of_ble_eq_true rfl) (Nat.le_of_ble_eq_true rfl) rfl ?_
  refine me_aload_n (pc' := 2294) (i := 2) dL_law_2293 rfl rfl rfl ?_
  refine me_callV (As := []) (st := []) (F' := mm_SQ) (G' := mm_SQ) (F'' := mm_SQ) (pc' := 2297) dL_law_2294 rfl mfX11_thrown rfl lkL_186 kd_352 rfl (mm_ltQ kd_352) ⟨Nat.le_of_ble_eq_true rfl, Nat.le_of_ble_eq_true rfl⟩ (Nat.le_of_ble_eq_true rfl) (fun z => z) (mm_RQ (fun t => rX11_thrown (q := (360, t)) x5.2 (Nat.le_of_ble_eq_true rfl))) (fun x7 e8 => Or.inl ⟨_, _, rfl, fun z => z, ?_⟩)
  show mm_E2 _ _ _ _ _ [.int x7] x5.2 _ _
  refine me_iload (pc' := 2299) (i := 6) dL_law_2297 rfl rfl ?_
  refine me_icmp_eq (pc' := 2302) (tgt := 2304) dL_law_2299 (by decide) rfl (fun c9 => ?_) (fun c9 => ?_)
  · refine me_iload (pc' := 2306) (i := 6) dL_law_2304 rfl rfl ?_
    refine mm_jnI (fun (j109 : Unit → Option (Bool × mm_H)) => ∀ (_ : Unit), mm_E2 mm_SQ mm_SQ mL_law 2341 [some (.ref 360), some (.ref 0), some (.ref 352), some (.ref 358), some (.ref 359), some (.int i), none, none, none] [] x5.2 (j109 ()) lf_ze) ?_ (fun j10 j10p => ?_)
    · intro _
      refine me_goto (tgt := 3496) dL_law_2341 (by decide) ?_
      exact jp x5.2
    refine me_if_ne (pc' := 2309) (tgt := 2341) dL_law_2306 (by decide) rfl (fun c11 => ?_) (fun c11 => ?_)
    · exact mm_maskB [true, true, true, true, true, true, false, false, false] (j10p ())
    · refine me_aload (pc' := 2311) (i := 4) dL_law_2309 rfl rfl ?_
      refine me_iconst (pc' := 2312) (v := 0) dL_law_2311 rfl kc_i0 ?_
      refine mm_guard (fun c12 => ?_)
      refine me_dald (pc' := 2313) dL_law_2312 rfl kd_359 (mm_ltQ kd_359) (mm_ibd_of c12) ?_
      refine me_dload (pc' := 2315) (i := 7) dL_law_2313 rfl rfl ?_
      refine me_dcmp (pc' := 2316) dL_law_2315 rfl ?_
      refine me_if_eq (pc' := 2319) (tgt := 2341) dL_law_2316 (by decide) rfl (fun c13 => ?_) (fun c13 => ?_)
      · exact mm_maskB [true, true, true, true, true, true, false, false, false] (j10p ())
      · refine me_aload (pc' := 2321) (i := 4) dL_law_2319 rfl rfl ?_
        refine me_iconst (pc' := 2322) (v := 0) dL_law_2321 rfl kc_i0 ?_
        refine mm_guard (fun c14 => ?_)
        refine me_dald (pc' := 2323) dL_law_2322 rfl kd_359 (mm_ltQ kd_359) (mm_ibd_of c14) ?_
        refine me_aload (pc' := 2325) (i := 4) dL_law_2323 rfl rfl ?_
        refine me_iconst (pc' := 2326) (v := 0) dL_law_2325 rfl kc_i0 ?_
        refine mm_guard (fun c15 => ?_)
        refine me_dald (pc' := 2327) dL_law_2326 rfl kd_359 (mm_ltQ kd_359) (mm_ibd_of c15) ?_
        refine me_dcmp (pc' := 2328) dL_law_2327 rfl ?_
        refine me_if_eq (pc' := 2331) (tgt := 2339) dL_law_2328 (by decide) rfl (fun c16 => ?_) (fun c16 => ?_)
        · refine me_iconst (pc' := 2340) (v := 0) dL_law_2339 rfl kc_i0 ?_
          exact me_zret (b := false) dL_law_2340 rfl (fun z => z) rfl
        · refine me_dload (pc' := 2333) (i := 7) dL_law_2331 rfl rfl ?_
          refine me_dload (pc' := 2335) (i := 7) dL_law_2333 rfl rfl ?_
          refine me_dcmp (pc' := 2336) dL_law_2335 rfl ?_
          refine me_if_ne (pc' := 2339) (tgt := 2341) dL_law_2336 (by decide) rfl (fun c17 => ?_) (fun c17 => ?_)
          · exact mm_maskB [true, true, true, true, true, true, false, false, false] (j10p ())
          · refine me_iconst (pc' := 2340) (v := 0) dL_law_2339 rfl kc_i0 ?_
            exact me_zret (b := false) dL_law_2340 rfl (fun z => z) rfl
  · refine me_iconst (pc' := 2303) (v := 0) dL_law_2302 rfl kc_i0 ?_
    exact me_zret (b := false) dL_law_2303 rfl (fun z => z) rfl
def gL_c2344 (i : Int32) (j : mm_H → Option (Bool × mm_H)) (h : mm_H) : Option (Bool × mm_H) :=
if mm_isb ((i + 1)) (mh_I h 360 0) = true then
(gL_wasteShare ((mh_I h 360 (Int32.toNatClampNeg ((i + 1)) + 1))) h).bind (fun (x2 : (Int32 × mm_H)) =>
if mm_isb ((i + 1)) (mh_I x2.2 360 0) = true then
(gX11_wasteShare ((mh_I x2.2 360 (Int32.toNatClampNeg ((i + 1)) + 1))) x2.2).bind (fun (x5 : (UInt32 × mm_H)) =>
(gX11_thrown x5.2).bind (fun (x7 : Int32) =>
if x7 = x2.1 then
mm_jn (fun (_ : Unit) =>
j x5.2) (fun (j10 : Unit → Option (Bool × mm_H)) =>
if x2.1 = 0 then
if mm_ibd 0 1 = true then
if mm_n64 (FP.f2d x5.1) = true then
if (Op.cmpValue (FP.dcmp ((mh_D x5.2 359 (Int32.toNatClampNeg (0)))) ((FP.f2d x5.1))) .l) = 0 then
j10 ()
else
if mm_ibd 0 1 = true then
if mm_ibd 0 1 = true then
if (Op.cmpValue (FP.dcmp ((mh_D x5.2 359 (Int32.toNatClampNeg (0)))) ((mh_D x5.2 359 (Int32.toNatClampNeg (0))))) .l) = 0 then
some (false, x5.2)
else
if (Op.cmpValue (FP.fcmp x5.1 x5.1) .l) = 0 then
some (false, x5.2)
else
j10 () else none else none else none else none
else
j10 ())
else
some (false, x5.2))) else none) else none
theorem rL_c2344 (i : Int32) (j : mm_H → Option (Bool × mm_H)) (jp : ∀ h, mm_E2 mm_SQ mm_SQ mL_law 3496 [some (.ref 360), some (.ref 0), some (.ref 352), some (.ref 358), some (.ref 359), some (.int i), none, none, none] [] h (j h) lf_ze) (h : mm_H) : mm_E2 mm_SQ mm_SQ mL_law 2344 [some (.ref 360), some (.ref 0), some (.ref 352), some (.ref 358), some (.ref 359), some (.int i), none, none, none] [] h (gL_c2344 i j h) lf_ze := by
  unfold gL_c2344
  refine me_aload_n (pc' := 2345) (i := 1) dL_law_2344 rfl rfl rfl ?_
  refine me_aload_n (pc' := 2346) (i := 0) dL_law_2345 rfl rfl rfl ?_
  refine me_iload (pc' := 2348) (i := 5) dL_law_2346 rfl rfl ?_
  refine me_iconst (pc' := 2349) (v := 1) dL_law_2348 rfl kc_i1 ?_
  refine me_iadd (pc' := 2350) dL_law_2349 rfl ?_
  refine mm_guard (fun c1 => ?_)
  refine me_scld (pc' := 2351) dL_law_2350 rfl c1 ?_
  refine me_aload (pc' := 2353) (i := 4) dL_law_2351 rfl rfl ?_
  refine me_callSX (As := [.ref 0, .int (mh_I h 360 (Int32.toNatClampNeg ((i + 1)) + 1)), .ref 359]) (st := []) (F' := mm_SQ) (G' := mm_SQ) (F'' := mm_SQ) (pc' := 2356) dL_law_2353 rfl mfL_wasteShare rfl lx_322 ⟨Nat.le_of_ble_eq_true rfl, Nat.le_of_ble_eq_true rfl⟩ (Nat.le_of_ble_eq_true rfl) (fun z => z) (mm_RQ (fun t => rL_wasteShare (q := (360, t)) ((mh_I h 360 (Int32.toNatClampNeg ((i + 1)) + 1))) h (Nat.le_of_ble_eq_true rfl))) (fun x2 e3 => Or.inl ⟨_, _, rfl, fun z => z, ?_⟩)
  show mm_E2 _ _ _ _ _ [.int x2.1] x2.2 _ _
  refine me_istore (pc' := 2358) (i := 6) (L' := [some (.ref 360), some (.ref 0), some (.ref 352), some (.ref 358), some (.ref 359), some (.int i), some (.int x2.1), none, none]) dL_law_2356 rfl (Nat.le_of_ble_eq_true rfl) (Nat.le_of_ble_eq_true rfl) rfl ?_
  refine me_aload_n (pc' := 2359) (i := 2) dL_law_2358 rfl rfl rfl ?_
  refine me_aload_n (pc' := 2360) (i := 0) dL_law_2359 rfl rfl rfl ?_
  refine me_iload (pc' := 2362) (i := 5) dL_law_2360 rfl rfl ?_
  refine me_iconst (pc' := 2363) (v := 1) dL_law_2362 rfl kc_i1 ?_
  refine me_iadd (pc' := 2364) dL_law_2363 rfl ?_
  refine mm_guard (fun c4 => ?_)
  refine me_scld (pc' := 2365) dL_law_2364 rfl c4 ?_
  refine me_callV (As := [.int (mh_I x2.2 360 (Int32.toNatClampNeg ((i + 1)) + 1))]) (st := []) (F' := mm_SQ) (G' := mm_SQ) (F'' := mm_SQ) (pc' := 2368) dL_law_2365 rfl mfX11_wasteShare rfl lkL_324 kd_352 rfl (mm_ltQ kd_352) ⟨Nat.le_of_ble_eq_true rfl, Nat.le_of_ble_eq_true rfl⟩ (Nat.le_of_ble_eq_true rfl) (fun z => z) (mm_RQ (fun t => rX11_wasteShare (q := (360, t)) ((mh_I x2.2 360 (Int32.toNatClampNeg ((i + 1)) + 1))) x2.2 (Nat.le_of_ble_eq_true rfl))) (fun x5 e6 => Or.inl ⟨_, _, rfl, fun z => z, ?_⟩)
  show mm_E2 _ _ _ _ _ [.float x5.1] x5.2 _ _
  refine me_fstore (pc' := 2370) (i := 7) (L' := [some (.ref 360), some (.ref 0), some (.ref 352), some (.ref 358), some (.ref 359), some (.int i), some (.int x2.1), some (.float x5.1), none]) dL_law_2368 rfl (Nat.le_of_ble_eq_true rfl) (Nat.le_of_ble_eq_true rfl) rfl ?_
  refine me_aload_n (pc' := 2371) (i := 2) dL_law_2370 rfl rfl rfl ?_
  refine me_callV (As := []) (st := []) (F' := mm_SQ) (G' := mm_SQ) (F'' := mm_SQ) (pc' := 2374) dL_law_2371 rfl mfX11_thrown rfl lkL_186 kd_352 rfl (mm_ltQ kd_352) ⟨Nat.le_of_ble_eq_true rfl, Nat.le_of_ble_eq_true rfl⟩ (Nat.le_of_ble_eq_true rfl) (fun z => z) (mm_RQ (fun t => rX11_thrown (q := (360, t)) x5.2 (Nat.le_of_ble_eq_true rfl))) (fun x7 e8 => Or.inl ⟨_, _, rfl, fun z => z, ?_⟩)
  show mm_E2 _ _ _ _ _ [.int x7] x5.2 _ _
  refine me_iload (pc' := 2376) (i := 6) dL_law_2374 rfl rfl ?_
  refine me_icmp_eq (pc' := 2379) (tgt := 2381) dL_law_2376 (by decide) rfl (fun c9 => ?_) (fun c9 => ?_)
  · refine me_iload (pc' := 2383) (i := 6) dL_law_2381 rfl rfl ?_
    refine mm_jnI (fun (j109 : Unit → Option (Bool × mm_H)) => ∀ (_ : Unit), mm_E2 mm_SQ mm_SQ mL_law 2419 [some (.ref 360), some (.ref 0), some (.ref 352), some (.ref 358), some (.ref 359), some (.int i), none, none, none] [] x5.2 (j109 ()) lf_ze) ?_ (fun j10 j10p => ?_)
    · intro _
      refine me_goto (tgt := 3496) dL_law_2419 (by decide) ?_
      exact jp x5.2
    refine me_if_ne (pc' := 2386) (tgt := 2419) dL_law_2383 (by decide) rfl (fun c11 => ?_) (fun c11 => ?_)
    · exact mm_maskB [true, true, true, true, true, true, false, false, false] (j10p ())
    · refine me_aload (pc' := 2388) (i := 4) dL_law_2386 rfl rfl ?_
      refine me_iconst (pc' := 2389) (v := 0) dL_law_2388 rfl kc_i0 ?_
      refine mm_guard (fun c12 => ?_)
      refine me_dald (pc' := 2390) dL_law_2389 rfl kd_359 (mm_ltQ kd_359) (mm_ibd_of c12) ?_
      refine me_fload (pc' := 2392) (i := 7) dL_law_2390 rfl rfl ?_
      refine mm_guard (fun c13 => ?_)
      refine me_f2d (pc' := 2393) dL_law_2392 rfl (mm_n64_of c13) ?_
      refine me_dcmp (pc' := 2394) dL_law_2393 rfl ?_
      refine me_if_eq (pc' := 2397) (tgt := 2419) dL_law_2394 (by decide) rfl (fun c14 => ?_) (fun c14 => ?_)
      · exact mm_maskB [true, true, true, true, true, true, false, false, false] (j10p ())
      · refine me_aload (pc' := 2399) (i := 4) dL_law_2397 rfl rfl ?_
        refine me_iconst (pc' := 2400) (v := 0) dL_law_2399 rfl kc_i0 ?_
        refine mm_guard (fun c15 => ?_)
        refine me_dald (pc' := 2401) dL_law_2400 rfl kd_359 (mm_ltQ kd_359) (mm_ibd_of c15) ?_
        refine me_aload (pc' := 2403) (i := 4) dL_law_2401 rfl rfl ?_
        refine me_iconst (pc' := 2404) (v := 0) dL_law_2403 rfl kc_i0 ?_
        refine mm_guard (fun c16 => ?_)
        refine me_dald (pc' := 2405) dL_law_2404 rfl kd_359 (mm_ltQ kd_359) (mm_ibd_of c16) ?_
        refine me_dcmp (pc' := 2406) dL_law_2405 rfl ?_
        refine me_if_eq (pc' := 2409) (tgt := 2417) dL_law_2406 (by decide) rfl (fun c17 => ?_) (fun c17 => ?_)
        · refine me_iconst (pc' := 2418) (v := 0) dL_law_2417 rfl kc_i0 ?_
          exact me_zret (b := false) dL_law_2418 rfl (fun z => z) rfl
        · refine me_fload (pc' := 2411) (i := 7) dL_law_2409 rfl rfl ?_
          refine me_fload (pc' := 2413) (i := 7) dL_law_2411 rfl rfl ?_
          refine me_fcmp (pc' := 2414) dL_law_2413 rfl ?_
          refine me_if_ne (pc' := 2417) (tgt := 2419) dL_law_2414 (by decide) rfl (fun c18 => ?_) (fun c18 => ?_)
          · exact mm_maskB [true, true, true, true, true, true, false, false, false] (j10p ())
          · refine me_iconst (pc' := 2418) (v := 0) dL_law_2417 rfl kc_i0 ?_
            exact me_zret (b := false) dL_law_2418 rfl (fun z => z) rfl
  · refine me_iconst (pc' := 2380) (v := 0) dL_law_2379 rfl kc_i0 ?_
    exact me_zret (b := false) dL_law_2380 rfl (fun z => z) rfl
def gL_c2422 (i : Int32) (j : mm_H → Option (Bool × mm_H)) (h : mm_H) : Option (Bool × mm_H) :=
(gX10_inconsistencies h).bind (fun (x1 : Int32) =>
(gX11_inconsistencies h).bind (fun (x3 : (Int32 × mm_H)) =>
if x1 = x3.1 then
j x3.2
else
some (false, x3.2)))
theorem rL_c2422 (i : Int32) (j : mm_H → Option (Bool × mm_H)) (jp : ∀ h, mm_E2 mm_SQ mm_SQ mL_law 3496 [some (.ref 360), some (.ref 0), some (.ref 352), some (.ref 358), some (.ref 359), some (.int i), none, none, none] [] h (j h) lf_ze) (h : mm_H) : mm_E2 mm_SQ mm_SQ mL_law 2422 [some (.ref 360), some (.ref 0), some (.ref 352), some (.ref 358), some (.ref 359), some (.int i), none, none, none] [] h (gL_c2422 i j h) lf_ze := by
  unfold gL_c2422
  refine me_aload_n (pc' := 2423) (i := 1) dL_law_2422 rfl rfl rfl ?_
  refine me_callV (As := []) (st := []) (F' := mm_SQ) (G' := mm_SQ) (F'' := mm_SQ) (pc' := 2426) dL_law_2423 rfl mfX10_inconsistencies rfl lkL_325 kd_0 rfl (mm_ltQ kd_0) ⟨Nat.le_of_ble_eq_true rfl, Nat.le_of_ble_eq_true rfl⟩ (Nat.le_of_ble_eq_true rfl) (fun z => z) (mm_RQ (fun t => rX10_inconsistencies (q := (360, t)) h )) (fun x1 e2 => Or.inl ⟨_, _, rfl, fun z => z, ?_⟩)
  show mm_E2 _ _ _ _ _ [.int x1] h _ _
  refine me_aload_n (pc' := 2427) (i := 2) dL_law_2426 rfl rfl rfl ?_
  refine me_callV (As := []) (st := [.int x1]) (F' := mm_SQ) (G' := mm_SQ) (F'' := mm_SQ) (pc' := 2430) dL_law_2427 rfl mfX11_inconsistencies rfl lkL_328 kd_352 rfl (mm_ltQ kd_352) ⟨Nat.le_of_ble_eq_true rfl, Nat.le_of_ble_eq_true rfl⟩ (Nat.le_of_ble_eq_true rfl) (fun z => z) (mm_RQ (fun t => rX11_inconsistencies (q := (360, t)) h (Nat.le_of_ble_eq_true rfl))) (fun x3 e4 => Or.inl ⟨_, _, rfl, fun z => z, ?_⟩)
  show mm_E2 _ _ _ _ _ [.int x3.1, .int x1] x3.2 _ _
  refine me_icmp_eq (pc' := 2433) (tgt := 3496) dL_law_2430 (by decide) rfl (fun c5 => ?_) (fun c5 => ?_)
  · exact jp x3.2
  · refine me_iconst (pc' := 2434) (v := 0) dL_law_2433 rfl kc_i0 ?_
    exact me_zret (b := false) dL_law_2434 rfl (fun z => z) rfl
def gL_c2435 (i : Int32) (j : mm_H → Option (Bool × mm_H)) (h : mm_H) : Option (Bool × mm_H) :=
if mm_isb ((i + 1)) (mh_I h 360 0) = true then
if mm_isb ((i + 2)) (mh_I h 360 0) = true then
(gL_daysUntilShortage ((mh_I h 360 (Int32.toNatClampNeg ((i + 1)) + 1))) ((mh_I h 360 (Int32.toNatClampNeg ((i + 2)) + 1))) h).bind (fun (x3 : (Int32 × mm_H)) =>
if mm_isb ((i + 1)) (mh_I x3.2 360 0) = true then
if mm_isb ((i + 2)) (mh_I x3.2 360 0) = true then
(gX11_daysUntilShortage ((mh_I x3.2 360 (Int32.toNatClampNeg ((i + 1)) + 1))) ((mh_I x3.2 360 (Int32.toNatClampNeg ((i + 2)) + 1))) x3.2).bind (fun (x7 : (Int32 × mm_H)) =>
(gX11_thrown x7.2).bind (fun (x9 : Int32) =>
if x9 = x3.1 then
mm_jn (fun (_ : Unit) =>
j x7.2) (fun (j12 : Unit → Option (Bool × mm_H)) =>
if x3.1 = 0 then
if mm_ibd 0 1 = true then
if (lg_cmp ((mh_J x7.2 358 (Int32.toNatClampNeg (0)))) ((x7.1).toInt64)) = 0 then
j12 ()
else
some (false, x7.2) else none
else
j12 ())
else
some (false, x7.2))) else none else none) else none else none
theorem rL_c2435 (i : Int32) (j : mm_H → Option (Bool × mm_H)) (jp : ∀ h, mm_E2 mm_SQ mm_SQ mL_law 3496 [some (.ref 360), some (.ref 0), some (.ref 352), some (.ref 358), some (.ref 359), some (.int i), none, none, none] [] h (j h) lf_ze) (h : mm_H) : mm_E2 mm_SQ mm_SQ mL_law 2435 [some (.ref 360), some (.ref 0), some (.ref 352), some (.ref 358), some (.ref 359), some (.int i), none, none, none] [] h (gL_c2435 i j h) lf_ze := by
  unfold gL_c2435
  refine me_aload_n (pc' := 2436) (i := 1) dL_law_2435 rfl rfl rfl ?_
  refine me_aload_n (pc' := 2437) (i := 0) dL_law_2436 rfl rfl rfl ?_
  refine me_iload (pc' := 2439) (i := 5) dL_law_2437 rfl rfl ?_
  refine me_iconst (pc' := 2440) (v := 1) dL_law_2439 rfl kc_i1 ?_
  refine me_iadd (pc' := 2441) dL_law_2440 rfl ?_
  refine mm_guard (fun c1 => ?_)
  refine me_scld (pc' := 2442) dL_law_2441 rfl c1 ?_
  refine me_aload_n (pc' := 2443) (i := 0) dL_law_2442 rfl rfl rfl ?_
  refine me_iload (pc' := 2445) (i := 5) dL_law_2443 rfl rfl ?_
  refine me_iconst (pc' := 2446) (v := 2) dL_law_2445 rfl kc_i2 ?_
  refine me_iadd (pc' := 2447) dL_law_2446 rfl ?_
  refine mm_guard (fun c2 => ?_)
  refine me_scld (pc' := 2448) dL_law_2447 rfl c2 ?_
  refine me_aload_n (pc' := 2449) (i := 3) dL_law_2448 rfl rfl rfl ?_
  refine me_callSX (As := [.ref 0, .int (mh_I h 360 (Int32.toNatClampNeg ((i + 1)) + 1)), .int (mh_I h 360 (Int32.toNatClampNeg ((i + 2)) + 1)), .ref 358]) (st := []) (F' := mm_SQ) (G' := mm_SQ) (F'' := mm_SQ) (pc' := 2452) dL_law_2449 rfl mfL_daysUntilShortage rfl lx_329 ⟨Nat.le_of_ble_eq_true rfl, Nat.le_of_ble_eq_true rfl⟩ (Nat.le_of_ble_eq_true rfl) (fun z => z) (mm_RQ (fun t => rL_daysUntilShortage (q := (360, t)) ((mh_I h 360 (Int32.toNatClampNeg ((i + 1)) + 1))) ((mh_I h 360 (Int32.toNatClampNeg ((i + 2)) + 1))) h (Nat.le_of_ble_eq_true rfl))) (fun x3 e4 => Or.inl ⟨_, _, rfl, fun z => z, ?_⟩)
  show mm_E2 _ _ _ _ _ [.int x3.1] x3.2 _ _
  refine me_istore (pc' := 2454) (i := 6) (L' := [some (.ref 360), some (.ref 0), some (.ref 352), some (.ref 358), some (.ref 359), some (.int i), some (.int x3.1), none, none]) dL_law_2452 rfl (Nat.le_of_ble_eq_true rfl) (Nat.le_of_ble_eq_true rfl) rfl ?_
  refine me_aload_n (pc' := 2455) (i := 2) dL_law_2454 rfl rfl rfl ?_
  refine me_aload_n (pc' := 2456) (i := 0) dL_law_2455 rfl rfl rfl ?_
  refine me_iload (pc' := 2458) (i := 5) dL_law_2456 rfl rfl ?_
  refine me_iconst (pc' := 2459) (v := 1) dL_law_2458 rfl kc_i1 ?_
  refine me_iadd (pc' := 2460) dL_law_2459 rfl ?_
  refine mm_guard (fun c5 => ?_)
  refine me_scld (pc' := 2461) dL_law_2460 rfl c5 ?_
  refine me_aload_n (pc' := 2462) (i := 0) dL_law_2461 rfl rfl rfl ?_
  refine me_iload (pc' := 2464) (i := 5) dL_law_2462 rfl rfl ?_
  refine me_iconst (pc' := 2465) (v := 2) dL_law_2464 rfl kc_i2 ?_
  refine me_iadd (pc' := 2466) dL_law_2465 rfl ?_
  refine mm_guard (fun c6 => ?_)
  refine me_scld (pc' := 2467) dL_law_2466 rfl c6 ?_
  refine me_callV (As := [.int (mh_I x3.2 360 (Int32.toNatClampNeg ((i + 1)) + 1)), .int (mh_I x3.2 360 (Int32.toNatClampNeg ((i + 2)) + 1))]) (st := []) (F' := mm_SQ) (G' := mm_SQ) (F'' := mm_SQ) (pc' := 2470) dL_law_2467 rfl mfX11_daysUntilShortage rfl lkL_331 kd_352 rfl (mm_ltQ kd_352) ⟨Nat.le_of_ble_eq_true rfl, Nat.le_of_ble_eq_true rfl⟩ (Nat.le_of_ble_eq_true rfl) (fun z => z) (mm_RQ (fun t => rX11_daysUntilShortage (q := (360, t)) ((mh_I x3.2 360 (Int32.toNatClampNeg ((i + 1)) + 1))) ((mh_I x3.2 360 (Int32.toNatClampNeg ((i + 2)) + 1))) x3.2 (Nat.le_of_ble_eq_true rfl))) (fun x7 e8 => Or.inl ⟨_, _, rfl, fun z => z, ?_⟩)
  show mm_E2 _ _ _ _ _ [.int x7.1] x7.2 _ _
  refine me_istore (pc' := 2472) (i := 7) (L' := [some (.ref 360), some (.ref 0), some (.ref 352), some (.ref 358), some (.ref 359), some (.int i), some (.int x3.1), some (.int x7.1), none]) dL_law_2470 rfl (Nat.le_of_ble_eq_true rfl) (Nat.le_of_ble_eq_true rfl) rfl ?_
  refine me_aload_n (pc' := 2473) (i := 2) dL_law_2472 rfl rfl rfl ?_
  refine me_callV (As := []) (st := []) (F' := mm_SQ) (G' := mm_SQ) (F'' := mm_SQ) (pc' := 2476) dL_law_2473 rfl mfX11_thrown rfl lkL_186 kd_352 rfl (mm_ltQ kd_352) ⟨Nat.le_of_ble_eq_true rfl, Nat.le_of_ble_eq_true rfl⟩ (Nat.le_of_ble_eq_true rfl) (fun z => z) (mm_RQ (fun t => rX11_thrown (q := (360, t)) x7.2 (Nat.le_of_ble_eq_true rfl))) (fun x9 e10 => Or.inl ⟨_, _, rfl, fun z => z, ?_⟩)
  show mm_E2 _ _ _ _ _ [.int x9] x7.2 _ _
  refine me_iload (pc' := 2478) (i := 6) dL_law_2476 rfl rfl ?_
  refine me_icmp_eq (pc' := 2481) (tgt := 2483) dL_law_2478 (by decide) rfl (fun c11 => ?_) (fun c11 => ?_)
  · refine me_iload (pc' := 2485) (i := 6) dL_law_2483 rfl rfl ?_
    refine mm_jnI (fun (j129 : Unit → Option (Bool × mm_H)) => ∀ (_ : Unit), mm_E2 mm_SQ mm_SQ mL_law 2500 [some (.ref 360), some (.ref 0), some (.ref 352), some (.ref 358), some (.ref 359), some (.int i), none, none, none] [] x7.2 (j129 ()) lf_ze) ?_ (fun j12 j12p => ?_)
    · intro _
      refine me_goto (tgt := 3496) dL_law_2500 (by decide) ?_
      exact jp x7.2
    refine me_if_ne (pc' := 2488) (tgt := 2500) dL_law_2485 (by decide) rfl (fun c13 => ?_) (fun c13 => ?_)
    · exact mm_maskB [true, true, true, true, true, true, false, false, false] (j12p ())
    · refine me_aload_n (pc' := 2489) (i := 3) dL_law_2488 rfl rfl rfl ?_
      refine me_iconst (pc' := 2490) (v := 0) dL_law_2489 rfl kc_i0 ?_
      refine mm_guard (fun c14 => ?_)
      refine me_lald (pc' := 2491) dL_law_2490 rfl kd_358 (mm_ltQ kd_358) (mm_ibd_of c14) ?_
      refine me_iload (pc' := 2493) (i := 7) dL_law_2491 rfl rfl ?_
      refine me_i2l (pc' := 2494) dL_law_2493 rfl ?_
      refine me_lcmp (pc' := 2495) dL_law_2494 rfl ?_
      refine me_if_eq (pc' := 2498) (tgt := 2500) dL_law_2495 (by decide) rfl (fun c15 => ?_) (fun c15 => ?_)
      · exact mm_maskB [true, true, true, true, true, true, false, false, false] (j12p ())
      · refine me_iconst (pc' := 2499) (v := 0) dL_law_2498 rfl kc_i0 ?_
        exact me_zret (b := false) dL_law_2499 rfl (fun z => z) rfl
  · refine me_iconst (pc' := 2482) (v := 0) dL_law_2481 rfl kc_i0 ?_
    exact me_zret (b := false) dL_law_2482 rfl (fun z => z) rfl
def gL_c2503 (i : Int32) (j : mm_H → Option (Bool × mm_H)) (h : mm_H) : Option (Bool × mm_H) :=
if mm_isb ((i + 1)) (mh_I h 360 0) = true then
if mm_isb ((i + 2)) (mh_I h 360 0) = true then
if mm_isb ((i + 3)) (mh_I h 360 0) = true then
(gL_wasteWithDemand ((mh_I h 360 (Int32.toNatClampNeg ((i + 1)) + 1))) ((mh_I h 360 (Int32.toNatClampNeg ((i + 2)) + 1))) ((mh_I h 360 (Int32.toNatClampNeg ((i + 3)) + 1))) h).bind (fun (x4 : (Int32 × mm_H)) =>
if mm_isb ((i + 1)) (mh_I x4.2 360 0) = true then
if mm_isb ((i + 2)) (mh_I x4.2 360 0) = true then
if mm_isb ((i + 3)) (mh_I x4.2 360 0) = true then
(gX11_wasteWithDemand ((mh_I x4.2 360 (Int32.toNatClampNeg ((i + 1)) + 1))) ((mh_I x4.2 360 (Int32.toNatClampNeg ((i + 2)) + 1))) ((mh_I x4.2 360 (Int32.toNatClampNeg ((i + 3)) + 1))) x4.2).bind (fun (x9 : (Int32 × mm_H)) =>
(gX11_thrown x9.2).bind (fun (x11 : Int32) =>
if x11 = x4.1 then
mm_jn (fun (_ : Unit) =>
j x9.2) (fun (j14 : Unit → Option (Bool × mm_H)) =>
if x4.1 = 0 then
if mm_ibd 0 1 = true then
if (lg_cmp ((mh_J x9.2 358 (Int32.toNatClampNeg (0)))) ((x9.1).toInt64)) = 0 then
j14 ()
else
some (false, x9.2) else none
else
j14 ())
else
some (false, x9.2))) else none else none else none) else none else none else none
theorem rL_c2503 (i : Int32) (j : mm_H → Option (Bool × mm_H)) (jp : ∀ h, mm_E2 mm_SQ mm_SQ mL_law 3496 [some (.ref 360), some (.ref 0), some (.ref 352), some (.ref 358), some (.ref 359), some (.int i), none, none, none] [] h (j h) lf_ze) (h : mm_H) : mm_E2 mm_SQ mm_SQ mL_law 2503 [some (.ref 360), some (.ref 0), some (.ref 352), some (.ref 358), some (.ref 359), some (.int i), none, none, none] [] h (gL_c2503 i j h) lf_ze := by
  unfold gL_c2503
  refine me_aload_n (pc' := 2504) (i := 1) dL_law_2503 rfl rfl rfl ?_
  refine me_aload_n (pc' := 2505) (i := 0) dL_law_2504 rfl rfl rfl ?_
  refine me_iload (pc' := 2507) (i := 5) dL_law_2505 rfl rfl ?_
  refine me_iconst (pc' := 2508) (v := 1) dL_law_2507 rfl kc_i1 ?_
  refine me_iadd (pc' := 2509) dL_law_2508 rfl ?_
  refine mm_guard (fun c1 => ?_)
  refine me_scld (pc' := 2510) dL_law_2509 rfl c1 ?_
  refine me_aload_n (pc' := 2511) (i := 0) dL_law_2510 rfl rfl rfl ?_
  refine me_iload (pc' := 2513) (i := 5) dL_law_2511 rfl rfl ?_
  refine me_iconst (pc' := 2514) (v := 2) dL_law_2513 rfl kc_i2 ?_
  refine me_iadd (pc' := 2515) dL_law_2514 rfl ?_
  refine mm_guard (fun c2 => ?_)
  refine me_scld (pc' := 2516) dL_law_2515 rfl c2 ?_
  refine me_aload_n (pc' := 2517) (i := 0) dL_law_2516 rfl rfl rfl ?_
  refine me_iload (pc' := 2519) (i := 5) dL_law_2517 rfl rfl ?_
  refine me_iconst (pc' := 2520) (v := 3) dL_law_2519 rfl kc_i3 ?_
  refine me_iadd (pc' := 2521) dL_law_2520 rfl ?_
  refine mm_guard (fun c3 => ?_)
  refine me_scld (pc' := 2522) dL_law_2521 rfl c3 ?_
  refine me_aload_n (pc' := 2523) (i := 3) dL_law_2522 rfl rfl rfl ?_
  refine me_callSX (As := [.ref 0, .int (mh_I h 360 (Int32.toNatClampNeg ((i + 1)) + 1)), .int (mh_I h 360 (Int32.toNatClampNeg ((i + 2)) + 1)), .int (mh_I h 360 (Int32.toNatClampNeg ((i + 3)) + 1)), .ref 358]) (st := []) (F' := mm_SQ) (G' := mm_SQ) (F'' := mm_SQ) (pc' := 2526) dL_law_2523 rfl mfL_wasteWithDemand rfl lx_332 ⟨Nat.le_of_ble_eq_true rfl, Nat.le_of_ble_eq_true rfl⟩ (Nat.le_of_ble_eq_true rfl) (fun z => z) (mm_RQ (fun t => rL_wasteWithDemand (q := (360, t)) ((mh_I h 360 (Int32.toNatClampNeg ((i + 1)) + 1))) ((mh_I h 360 (Int32.toNatClampNeg ((i + 2)) + 1))) ((mh_I h 360 (Int32.toNatClampNeg ((i + 3)) + 1))) h (Nat.le_of_ble_eq_true rfl))) (fun x4 e5 => Or.inl ⟨_, _, rfl, fun z => z, ?_⟩)
  show mm_E2 _ _ _ _ _ [.int x4.1] x4.2 _ _
  refine me_istore (pc' := 2528) (i := 6) (L' := [some (.ref 360), some (.ref 0), some (.ref 352), some (.ref 358), some (.ref 359), some (.int i), some (.int x4.1), none, none]) dL_law_2526 rfl (Nat.le_of_ble_eq_true rfl) (Nat.le_of_ble_eq_true rfl) rfl ?_
  refine me_aload_n (pc' := 2529) (i := 2) dL_law_2528 rfl rfl rfl ?_
  refine me_aload_n (pc' := 2530) (i := 0) dL_law_2529 rfl rfl rfl ?_
  refine me_iload (pc' := 2532) (i := 5) dL_law_2530 rfl rfl ?_
  refine me_iconst (pc' := 2533) (v := 1) dL_law_2532 rfl kc_i1 ?_
  refine me_iadd (pc' := 2534) dL_law_2533 rfl ?_
  refine mm_guard (fun c6 => ?_)
  refine me_scld (pc' := 2535) dL_law_2534 rfl c6 ?_
  refine me_aload_n (pc' := 2536) (i := 0) dL_law_2535 rfl rfl rfl ?_
  refine me_iload (pc' := 2538) (i := 5) dL_law_2536 rfl rfl ?_
  refine me_iconst (pc' := 2539) (v := 2) dL_law_2538 rfl kc_i2 ?_
  refine me_iadd (pc' := 2540) dL_law_2539 rfl ?_
  refine mm_guard (fun c7 => ?_)
  refine me_scld (pc' := 2541) dL_law_2540 rfl c7 ?_
  refine me_aload_n (pc' := 2542) (i := 0) dL_law_2541 rfl rfl rfl ?_
  refine me_iload (pc' := 2544) (i := 5) dL_law_2542 rfl rfl ?_
  refine me_iconst (pc' := 2545) (v := 3) dL_law_2544 rfl kc_i3 ?_
  refine me_iadd (pc' := 2546) dL_law_2545 rfl ?_
  refine mm_guard (fun c8 => ?_)
  refine me_scld (pc' := 2547) dL_law_2546 rfl c8 ?_
  refine me_callV (As := [.int (mh_I x4.2 360 (Int32.toNatClampNeg ((i + 1)) + 1)), .int (mh_I x4.2 360 (Int32.toNatClampNeg ((i + 2)) + 1)), .int (mh_I x4.2 360 (Int32.toNatClampNeg ((i + 3)) + 1))]) (st := []) (F' := mm_SQ) (G' := mm_SQ) (F'' := mm_SQ) (pc' := 2550) dL_law_2547 rfl mfX11_wasteWithDemand rfl lkL_335 kd_352 rfl (mm_ltQ kd_352) ⟨Nat.le_of_ble_eq_true rfl, Nat.le_of_ble_eq_true rfl⟩ (Nat.le_of_ble_eq_true rfl) (fun z => z) (mm_RQ (fun t => rX11_wasteWithDemand (q := (360, t)) ((mh_I x4.2 360 (Int32.toNatClampNeg ((i + 1)) + 1))) ((mh_I x4.2 360 (Int32.toNatClampNeg ((i + 2)) + 1))) ((mh_I x4.2 360 (Int32.toNatClampNeg ((i + 3)) + 1))) x4.2 (Nat.le_of_ble_eq_true rfl))) (fun x9 e10 => Or.inl ⟨_, _, rfl, fun z => z, ?_⟩)
  show mm_E2 _ _ _ _ _ [.int x9.1] x9.2 _ _
  refine me_istore (pc' := 2552) (i := 7) (L' := [some (.ref 360), some (.ref 0), some (.ref 352), some (.ref 358), some (.ref 359), some (.int i), some (.int x4.1), some (.int x9.1), none]) dL_law_2550 rfl (Nat.le_of_ble_eq_true rfl) (Nat.le_of_ble_eq_true rfl) rfl ?_
  refine me_aload_n (pc' := 2553) (i := 2) dL_law_2552 rfl rfl rfl ?_
  refine me_callV (As := []) (st := []) (F' := mm_SQ) (G' := mm_SQ) (F'' := mm_SQ) (pc' := 2556) dL_law_2553 rfl mfX11_thrown rfl lkL_186 kd_352 rfl (mm_ltQ kd_352) ⟨Nat.le_of_ble_eq_true rfl, Nat.le_of_ble_eq_true rfl⟩ (Nat.le_of_ble_eq_true rfl) (fun z => z) (mm_RQ (fun t => rX11_thrown (q := (360, t)) x9.2 (Nat.le_of_ble_eq_true rfl))) (fun x11 e12 => Or.inl ⟨_, _, rfl, fun z => z, ?_⟩)
  show mm_E2 _ _ _ _ _ [.int x11] x9.2 _ _
  refine me_iload (pc' := 2558) (i := 6) dL_law_2556 rfl rfl ?_
  refine me_icmp_eq (pc' := 2561) (tgt := 2563) dL_law_2558 (by decide) rfl (fun c13 => ?_) (fun c13 => ?_)
  · refine me_iload (pc' := 2565) (i := 6) dL_law_2563 rfl rfl ?_
    refine mm_jnI (fun (j149 : Unit → Option (Bool × mm_H)) => ∀ (_ : Unit), mm_E2 mm_SQ mm_SQ mL_law 2580 [some (.ref 360), some (.ref 0), some (.ref 352), some (.ref 358), some (.ref 359), some (.int i), none, none, none] [] x9.2 (j149 ()) lf_ze) ?_ (fun j14 j14p => ?_)
    · intro _
      refine me_goto (tgt := 3496) dL_law_2580 (by decide) ?_
      exact jp x9.2
    refine me_if_ne (pc' := 2568) (tgt := 2580) dL_law_2565 (by decide) rfl (fun c15 => ?_) (fun c15 => ?_)
    · exact mm_maskB [true, true, true, true, true, true, false, false, false] (j14p ())
    · refine me_aload_n (pc' := 2569) (i := 3) dL_law_2568 rfl rfl rfl ?_
      refine me_iconst (pc' := 2570) (v := 0) dL_law_2569 rfl kc_i0 ?_
      refine mm_guard (fun c16 => ?_)
      refine me_lald (pc' := 2571) dL_law_2570 rfl kd_358 (mm_ltQ kd_358) (mm_ibd_of c16) ?_
      refine me_iload (pc' := 2573) (i := 7) dL_law_2571 rfl rfl ?_
      refine me_i2l (pc' := 2574) dL_law_2573 rfl ?_
      refine me_lcmp (pc' := 2575) dL_law_2574 rfl ?_
      refine me_if_eq (pc' := 2578) (tgt := 2580) dL_law_2575 (by decide) rfl (fun c17 => ?_) (fun c17 => ?_)
      · exact mm_maskB [true, true, true, true, true, true, false, false, false] (j14p ())
      · refine me_iconst (pc' := 2579) (v := 0) dL_law_2578 rfl kc_i0 ?_
        exact me_zret (b := false) dL_law_2579 rfl (fun z => z) rfl
  · refine me_iconst (pc' := 2562) (v := 0) dL_law_2561 rfl kc_i0 ?_
    exact me_zret (b := false) dL_law_2562 rfl (fun z => z) rfl
def gL_c2583 (i : Int32) (j : mm_H → Option (Bool × mm_H)) (h : mm_H) : Option (Bool × mm_H) :=
if mm_isb ((i + 1)) (mh_I h 360 0) = true then
(gL_demandWithoutWaste ((mh_I h 360 (Int32.toNatClampNeg ((i + 1)) + 1))) h).bind (fun (x2 : (Int32 × mm_H)) =>
if mm_isb ((i + 1)) (mh_I x2.2 360 0) = true then
(gX11_demandWithoutWaste ((mh_I x2.2 360 (Int32.toNatClampNeg ((i + 1)) + 1))) x2.2).bind (fun (x5 : (Int32 × mm_H)) =>
(gX11_thrown x5.2).bind (fun (x7 : Int32) =>
if x7 = x2.1 then
mm_jn (fun (_ : Unit) =>
j x5.2) (fun (j10 : Unit → Option (Bool × mm_H)) =>
if x2.1 = 0 then
if mm_ibd 0 1 = true then
if (lg_cmp ((mh_J x5.2 358 (Int32.toNatClampNeg (0)))) ((x5.1).toInt64)) = 0 then
j10 ()
else
some (false, x5.2) else none
else
j10 ())
else
some (false, x5.2))) else none) else none
theorem rL_c2583 (i : Int32) (j : mm_H → Option (Bool × mm_H)) (jp : ∀ h, mm_E2 mm_SQ mm_SQ mL_law 3496 [some (.ref 360), some (.ref 0), some (.ref 352), some (.ref 358), some (.ref 359), some (.int i), none, none, none] [] h (j h) lf_ze) (h : mm_H) : mm_E2 mm_SQ mm_SQ mL_law 2583 [some (.ref 360), some (.ref 0), some (.ref 352), some (.ref 358), some (.ref 359), some (.int i), none, none, none] [] h (gL_c2583 i j h) lf_ze := by
  unfold gL_c2583
  refine me_aload_n (pc' := 2584) (i := 1) dL_law_2583 rfl rfl rfl ?_
  refine me_aload_n (pc' := 2585) (i := 0) dL_law_2584 rfl rfl rfl ?_
  refine me_iload (pc' := 2587) (i := 5) dL_law_2585 rfl rfl ?_
  refine me_iconst (pc' := 2588) (v := 1) dL_law_2587 rfl kc_i1 ?_
  refine me_iadd (pc' := 2589) dL_law_2588 rfl ?_
  refine mm_guard (fun c1 => ?_)
  refine me_scld (pc' := 2590) dL_law_2589 rfl c1 ?_
  refine me_aload_n (pc' := 2591) (i := 3) dL_law_2590 rfl rfl rfl ?_
  refine me_callSX (As := [.ref 0, .int (mh_I h 360 (Int32.toNatClampNeg ((i + 1)) + 1)), .ref 358]) (st := []) (F' := mm_SQ) (G' := mm_SQ) (F'' := mm_SQ) (pc' := 2594) dL_law_2591 rfl mfL_demandWithoutWaste rfl lx_336 ⟨Nat.le_of_ble_eq_true rfl, Nat.le_of_ble_eq_true rfl⟩ (Nat.le_of_ble_eq_true rfl) (fun z => z) (mm_RQ (fun t => rL_demandWithoutWaste (q := (360, t)) ((mh_I h 360 (Int32.toNatClampNeg ((i + 1)) + 1))) h (Nat.le_of_ble_eq_true rfl))) (fun x2 e3 => Or.inl ⟨_, _, rfl, fun z => z, ?_⟩)
  show mm_E2 _ _ _ _ _ [.int x2.1] x2.2 _ _
  refine me_istore (pc' := 2596) (i := 6) (L' := [some (.ref 360), some (.ref 0), some (.ref 352), some (.ref 358), some (.ref 359), some (.int i), some (.int x2.1), none, none]) dL_law_2594 rfl (Nat.le_of_ble_eq_true rfl) (Nat.le_of_ble_eq_true rfl) rfl ?_
  refine me_aload_n (pc' := 2597) (i := 2) dL_law_2596 rfl rfl rfl ?_
  refine me_aload_n (pc' := 2598) (i := 0) dL_law_2597 rfl rfl rfl ?_
  refine me_iload (pc' := 2600) (i := 5) dL_law_2598 rfl rfl ?_
  refine me_iconst (pc' := 2601) (v := 1) dL_law_2600 rfl kc_i1 ?_
  refine me_iadd (pc' := 2602) dL_law_2601 rfl ?_
  refine mm_guard (fun c4 => ?_)
  refine me_scld (pc' := 2603) dL_law_2602 rfl c4 ?_
  refine me_callV (As := [.int (mh_I x2.2 360 (Int32.toNatClampNeg ((i + 1)) + 1))]) (st := []) (F' := mm_SQ) (G' := mm_SQ) (F'' := mm_SQ) (pc' := 2606) dL_law_2603 rfl mfX11_demandWithoutWaste rfl lkL_338 kd_352 rfl (mm_ltQ kd_352) ⟨Nat.le_of_ble_eq_true rfl, Nat.le_of_ble_eq_true rfl⟩ (Nat.le_of_ble_eq_true rfl) (fun z => z) (mm_RQ (fun t => rX11_demandWithoutWaste (q := (360, t)) ((mh_I x2.2 360 (Int32.toNatClampNeg ((i + 1)) + 1))) x2.2 (Nat.le_of_ble_eq_true rfl))) (fun x5 e6 => Or.inl ⟨_, _, rfl, fun z => z, ?_⟩)
  show mm_E2 _ _ _ _ _ [.int x5.1] x5.2 _ _
  refine me_istore (pc' := 2608) (i := 7) (L' := [some (.ref 360), some (.ref 0), some (.ref 352), some (.ref 358), some (.ref 359), some (.int i), some (.int x2.1), some (.int x5.1), none]) dL_law_2606 rfl (Nat.le_of_ble_eq_true rfl) (Nat.le_of_ble_eq_true rfl) rfl ?_
  refine me_aload_n (pc' := 2609) (i := 2) dL_law_2608 rfl rfl rfl ?_
  refine me_callV (As := []) (st := []) (F' := mm_SQ) (G' := mm_SQ) (F'' := mm_SQ) (pc' := 2612) dL_law_2609 rfl mfX11_thrown rfl lkL_186 kd_352 rfl (mm_ltQ kd_352) ⟨Nat.le_of_ble_eq_true rfl, Nat.le_of_ble_eq_true rfl⟩ (Nat.le_of_ble_eq_true rfl) (fun z => z) (mm_RQ (fun t => rX11_thrown (q := (360, t)) x5.2 (Nat.le_of_ble_eq_true rfl))) (fun x7 e8 => Or.inl ⟨_, _, rfl, fun z => z, ?_⟩)
  show mm_E2 _ _ _ _ _ [.int x7] x5.2 _ _
  refine me_iload (pc' := 2614) (i := 6) dL_law_2612 rfl rfl ?_
  refine me_icmp_eq (pc' := 2617) (tgt := 2619) dL_law_2614 (by decide) rfl (fun c9 => ?_) (fun c9 => ?_)
  · refine me_iload (pc' := 2621) (i := 6) dL_law_2619 rfl rfl ?_
    refine mm_jnI (fun (j109 : Unit → Option (Bool × mm_H)) => ∀ (_ : Unit), mm_E2 mm_SQ mm_SQ mL_law 2636 [some (.ref 360), some (.ref 0), some (.ref 352), some (.ref 358), some (.ref 359), some (.int i), none, none, none] [] x5.2 (j109 ()) lf_ze) ?_ (fun j10 j10p => ?_)
    · intro _
      refine me_goto (tgt := 3496) dL_law_2636 (by decide) ?_
      exact jp x5.2
    refine me_if_ne (pc' := 2624) (tgt := 2636) dL_law_2621 (by decide) rfl (fun c11 => ?_) (fun c11 => ?_)
    · exact mm_maskB [true, true, true, true, true, true, false, false, false] (j10p ())
    · refine me_aload_n (pc' := 2625) (i := 3) dL_law_2624 rfl rfl rfl ?_
      refine me_iconst (pc' := 2626) (v := 0) dL_law_2625 rfl kc_i0 ?_
      refine mm_guard (fun c12 => ?_)
      refine me_lald (pc' := 2627) dL_law_2626 rfl kd_358 (mm_ltQ kd_358) (mm_ibd_of c12) ?_
      refine me_iload (pc' := 2629) (i := 7) dL_law_2627 rfl rfl ?_
      refine me_i2l (pc' := 2630) dL_law_2629 rfl ?_
      refine me_lcmp (pc' := 2631) dL_law_2630 rfl ?_
      refine me_if_eq (pc' := 2634) (tgt := 2636) dL_law_2631 (by decide) rfl (fun c13 => ?_) (fun c13 => ?_)
      · exact mm_maskB [true, true, true, true, true, true, false, false, false] (j10p ())
      · refine me_iconst (pc' := 2635) (v := 0) dL_law_2634 rfl kc_i0 ?_
        exact me_zret (b := false) dL_law_2635 rfl (fun z => z) rfl
  · refine me_iconst (pc' := 2618) (v := 0) dL_law_2617 rfl kc_i0 ?_
    exact me_zret (b := false) dL_law_2618 rfl (fun z => z) rfl
def gL_c2639 (i : Int32) (j : mm_H → Option (Bool × mm_H)) (h : mm_H) : Option (Bool × mm_H) :=
if mm_isb ((i + 1)) (mh_I h 360 0) = true then
if mm_isb ((i + 2)) (mh_I h 360 0) = true then
if mm_isb ((i + 3)) (mh_I h 360 0) = true then
if mm_isb ((i + 4)) (mh_I h 360 0) = true then
(gL_receive ((mh_I h 360 (Int32.toNatClampNeg ((i + 1)) + 1))) ((mh_I h 360 (Int32.toNatClampNeg ((i + 2)) + 1))) ((mh_I h 360 (Int32.toNatClampNeg ((i + 3)) + 1))) ((mh_I h 360 (Int32.toNatClampNeg ((i + 4)) + 1))) h).bind (fun (x5 : (Int32 × mm_H)) =>
if mm_isb ((i + 1)) (mh_I x5.2 360 0) = true then
if mm_isb ((i + 2)) (mh_I x5.2 360 0) = true then
if mm_isb ((i + 3)) (mh_I x5.2 360 0) = true then
if mm_isb ((i + 4)) (mh_I x5.2 360 0) = true then
(gX11_receive ((mh_I x5.2 360 (Int32.toNatClampNeg ((i + 1)) + 1))) ((mh_I x5.2 360 (Int32.toNatClampNeg ((i + 2)) + 1))) ((mh_I x5.2 360 (Int32.toNatClampNeg ((i + 3)) + 1))) ((mh_I x5.2 360 (Int32.toNatClampNeg ((i + 4)) + 1))) x5.2).bind (fun (x11 : (Int32 × mm_H)) =>
(gX11_thrown x11.2).bind (fun (x13 : Int32) =>
if x13 = x5.1 then
mm_jn (fun (_ : Unit) =>
j x11.2) (fun (j16 : Unit → Option (Bool × mm_H)) =>
if x5.1 = 0 then
if mm_ibd 0 1 = true then
if (lg_cmp ((mh_J x11.2 358 (Int32.toNatClampNeg (0)))) ((x11.1).toInt64)) = 0 then
j16 ()
else
some (false, x11.2) else none
else
j16 ())
else
some (false, x11.2))) else none else none else none else none) else none else none else none else none
theorem rL_c2639 (i : Int32) (j : mm_H → Option (Bool × mm_H)) (jp : ∀ h, mm_E2 mm_SQ mm_SQ mL_law 3496 [some (.ref 360), some (.ref 0), some (.ref 352), some (.ref 358), some (.ref 359), some (.int i), none, none, none] [] h (j h) lf_ze) (h : mm_H) : mm_E2 mm_SQ mm_SQ mL_law 2639 [some (.ref 360), some (.ref 0), some (.ref 352), some (.ref 358), some (.ref 359), some (.int i), none, none, none] [] h (gL_c2639 i j h) lf_ze := by
  unfold gL_c2639
  refine me_aload_n (pc' := 2640) (i := 1) dL_law_2639 rfl rfl rfl ?_
  refine me_aload_n (pc' := 2641) (i := 0) dL_law_2640 rfl rfl rfl ?_
  refine me_iload (pc' := 2643) (i := 5) dL_law_2641 rfl rfl ?_
  refine me_iconst (pc' := 2644) (v := 1) dL_law_2643 rfl kc_i1 ?_
  refine me_iadd (pc' := 2645) dL_law_2644 rfl ?_
  refine mm_guard (fun c1 => ?_)
  refine me_scld (pc' := 2646) dL_law_2645 rfl c1 ?_
  refine me_aload_n (pc' := 2647) (i := 0) dL_law_2646 rfl rfl rfl ?_
  refine me_iload (pc' := 2649) (i := 5) dL_law_2647 rfl rfl ?_
  refine me_iconst (pc' := 2650) (v := 2) dL_law_2649 rfl kc_i2 ?_
  refine me_iadd (pc' := 2651) dL_law_2650 rfl ?_
  refine mm_guard (fun c2 => ?_)
  refine me_scld (pc' := 2652) dL_law_2651 rfl c2 ?_
  refine me_aload_n (pc' := 2653) (i := 0) dL_law_2652 rfl rfl rfl ?_
  refine me_iload (pc' := 2655) (i := 5) dL_law_2653 rfl rfl ?_
  refine me_iconst (pc' := 2656) (v := 3) dL_law_2655 rfl kc_i3 ?_
  refine me_iadd (pc' := 2657) dL_law_2656 rfl ?_
  refine mm_guard (fun c3 => ?_)
  refine me_scld (pc' := 2658) dL_law_2657 rfl c3 ?_
  refine me_aload_n (pc' := 2659) (i := 0) dL_law_2658 rfl rfl rfl ?_
  refine me_iload (pc' := 2661) (i := 5) dL_law_2659 rfl rfl ?_
  refine me_iconst (pc' := 2662) (v := 4) dL_law_2661 rfl kc_i4 ?_
  refine me_iadd (pc' := 2663) dL_law_2662 rfl ?_
  refine mm_guard (fun c4 => ?_)
  refine me_scld (pc' := 2664) dL_law_2663 rfl c4 ?_
  refine me_aload_n (pc' := 2665) (i := 3) dL_law_2664 rfl rfl rfl ?_
  refine me_callSX (As := [.ref 0, .int (mh_I h 360 (Int32.toNatClampNeg ((i + 1)) + 1)), .int (mh_I h 360 (Int32.toNatClampNeg ((i + 2)) + 1)), .int (mh_I h 360 (Int32.toNatClampNeg ((i + 3)) + 1)), .int (mh_I h 360 (Int32.toNatClampNeg ((i + 4)) + 1)), .ref 358]) (st := []) (F' := mm_SQ) (G' := mm_SQ) (F'' := mm_SQ) (pc' := 2668) dL_law_2665 rfl mfL_receive rfl lx_339 ⟨Nat.le_of_ble_eq_true rfl, Nat.le_of_ble_eq_true rfl⟩ (Nat.le_of_ble_eq_true rfl) (fun z => z) (mm_RQ (fun t => rL_receive (q := (360, t)) ((mh_I h 360 (Int32.toNatClampNeg ((i + 1)) + 1))) ((mh_I h 360 (Int32.toNatClampNeg ((i + 2)) + 1))) ((mh_I h 360 (Int32.toNatClampNeg ((i + 3)) + 1))) ((mh_I h 360 (Int32.toNatClampNeg ((i + 4)) + 1))) h (Nat.le_of_ble_eq_true rfl))) (fun x5 e6 => Or.inl ⟨_, _, rfl, fun z => z, ?_⟩)
  show mm_E2 _ _ _ _ _ [.int x5.1] x5.2 _ _
  refine me_istore (pc' := 2670) (i := 6) (L' := [some (.ref 360), some (.ref 0), some (.ref 352), some (.ref 358), some (.ref 359), some (.int i), some (.int x5.1), none, none]) dL_law_2668 rfl (Nat.le_of_ble_eq_true rfl) (Nat.le_of_ble_eq_true rfl) rfl ?_
  refine me_aload_n (pc' := 2671) (i := 2) dL_law_2670 rfl rfl rfl ?_
  refine me_aload_n (pc' := 2672) (i := 0) dL_law_2671 rfl rfl rfl ?_
  refine me_iload (pc' := 2674) (i := 5) dL_law_2672 rfl rfl ?_
  refine me_iconst (pc' := 2675) (v := 1) dL_law_2674 rfl kc_i1 ?_
  refine me_iadd (pc' := 2676) dL_law_2675 rfl ?_
  refine mm_guard (fun c7 => ?_)
  refine me_scld (pc' := 2677) dL_law_2676 rfl c7 ?_
  refine me_aload_n (pc' := 2678) (i := 0) dL_law_2677 rfl rfl rfl ?_
  refine me_iload (pc' := 2680) (i := 5) dL_law_2678 rfl rfl ?_
  refine me_iconst (pc' := 2681) (v := 2) dL_law_2680 rfl kc_i2 ?_
  refine me_iadd (pc' := 2682) dL_law_2681 rfl ?_
  refine mm_guard (fun c8 => ?_)
  refine me_scld (pc' := 2683) dL_law_2682 rfl c8 ?_
  refine me_aload_n (pc' := 2684) (i := 0) dL_law_2683 rfl rfl rfl ?_
  refine me_iload (pc' := 2686) (i := 5) dL_law_2684 rfl rfl ?_
  refine me_iconst (pc' := 2687) (v := 3) dL_law_2686 rfl kc_i3 ?_
  refine me_iadd (pc' := 2688) dL_law_2687 rfl ?_
  refine mm_guard (fun c9 => ?_)
  refine me_scld (pc' := 2689) dL_law_2688 rfl c9 ?_
  refine me_aload_n (pc' := 2690) (i := 0) dL_law_2689 rfl rfl rfl ?_
  refine me_iload (pc' := 2692) (i := 5) dL_law_2690 rfl rfl ?_
  refine me_iconst (pc' := 2693) (v := 4) dL_law_2692 rfl kc_i4 ?_
  refine me_iadd (pc' := 2694) dL_law_2693 rfl ?_
  refine mm_guard (fun c10 => ?_)
  refine me_scld (pc' := 2695) dL_law_2694 rfl c10 ?_
  refine me_callV (As := [.int (mh_I x5.2 360 (Int32.toNatClampNeg ((i + 1)) + 1)), .int (mh_I x5.2 360 (Int32.toNatClampNeg ((i + 2)) + 1)), .int (mh_I x5.2 360 (Int32.toNatClampNeg ((i + 3)) + 1)), .int (mh_I x5.2 360 (Int32.toNatClampNeg ((i + 4)) + 1))]) (st := []) (F' := mm_SQ) (G' := mm_SQ) (F'' := mm_SQ) (pc' := 2698) dL_law_2695 rfl mfX11_receive rfl lkL_342 kd_352 rfl (mm_ltQ kd_352) ⟨Nat.le_of_ble_eq_true rfl, Nat.le_of_ble_eq_true rfl⟩ (Nat.le_of_ble_eq_true rfl) (fun z => z) (mm_RQ (fun t => rX11_receive (q := (360, t)) ((mh_I x5.2 360 (Int32.toNatClampNeg ((i + 1)) + 1))) ((mh_I x5.2 360 (Int32.toNatClampNeg ((i + 2)) + 1))) ((mh_I x5.2 360 (Int32.toNatClampNeg ((i + 3)) + 1))) ((mh_I x5.2 360 (Int32.toNatClampNeg ((i + 4)) + 1))) x5.2 (Nat.le_of_ble_eq_true rfl))) (fun x11 e12 => Or.inl ⟨_, _, rfl, fun z => z, ?_⟩)
  show mm_E2 _ _ _ _ _ [.int x11.1] x11.2 _ _
  refine me_istore (pc' := 2700) (i := 7) (L' := [some (.ref 360), some (.ref 0), some (.ref 352), some (.ref 358), some (.ref 359), some (.int i), some (.int x5.1), some (.int x11.1), none]) dL_law_2698 rfl (Nat.le_of_ble_eq_true rfl) (Nat.le_of_ble_eq_true rfl) rfl ?_
  refine me_aload_n (pc' := 2701) (i := 2) dL_law_2700 rfl rfl rfl ?_
  refine me_callV (As := []) (st := []) (F' := mm_SQ) (G' := mm_SQ) (F'' := mm_SQ) (pc' := 2704) dL_law_2701 rfl mfX11_thrown rfl lkL_186 kd_352 rfl (mm_ltQ kd_352) ⟨Nat.le_of_ble_eq_true rfl, Nat.le_of_ble_eq_true rfl⟩ (Nat.le_of_ble_eq_true rfl) (fun z => z) (mm_RQ (fun t => rX11_thrown (q := (360, t)) x11.2 (Nat.le_of_ble_eq_true rfl))) (fun x13 e14 => Or.inl ⟨_, _, rfl, fun z => z, ?_⟩)
  show mm_E2 _ _ _ _ _ [.int x13] x11.2 _ _
  refine me_iload (pc' := 2706) (i := 6) dL_law_2704 rfl rfl ?_
  refine me_icmp_eq (pc' := 2709) (tgt := 2711) dL_law_2706 (by decide) rfl (fun c15 => ?_) (fun c15 => ?_)
  · refine me_iload (pc' := 2713) (i := 6) dL_law_2711 rfl rfl ?_
    refine mm_jnI (fun (j169 : Unit → Option (Bool × mm_H)) => ∀ (_ : Unit), mm_E2 mm_SQ mm_SQ mL_law 2728 [some (.ref 360), some (.ref 0), some (.ref 352), some (.ref 358), some (.ref 359), some (.int i), none, none, none] [] x11.2 (j169 ()) lf_ze) ?_ (fun j16 j16p => ?_)
    · intro _
      refine me_goto (tgt := 3496) dL_law_2728 (by decide) ?_
      exact jp x11.2
    refine me_if_ne (pc' := 2716) (tgt := 2728) dL_law_2713 (by decide) rfl (fun c17 => ?_) (fun c17 => ?_)
    · exact mm_maskB [true, true, true, true, true, true, false, false, false] (j16p ())
    · refine me_aload_n (pc' := 2717) (i := 3) dL_law_2716 rfl rfl rfl ?_
      refine me_iconst (pc' := 2718) (v := 0) dL_law_2717 rfl kc_i0 ?_
      refine mm_guard (fun c18 => ?_)
      refine me_lald (pc' := 2719) dL_law_2718 rfl kd_358 (mm_ltQ kd_358) (mm_ibd_of c18) ?_
      refine me_iload (pc' := 2721) (i := 7) dL_law_2719 rfl rfl ?_
      refine me_i2l (pc' := 2722) dL_law_2721 rfl ?_
      refine me_lcmp (pc' := 2723) dL_law_2722 rfl ?_
      refine me_if_eq (pc' := 2726) (tgt := 2728) dL_law_2723 (by decide) rfl (fun c19 => ?_) (fun c19 => ?_)
      · exact mm_maskB [true, true, true, true, true, true, false, false, false] (j16p ())
      · refine me_iconst (pc' := 2727) (v := 0) dL_law_2726 rfl kc_i0 ?_
        exact me_zret (b := false) dL_law_2727 rfl (fun z => z) rfl
  · refine me_iconst (pc' := 2710) (v := 0) dL_law_2709 rfl kc_i0 ?_
    exact me_zret (b := false) dL_law_2710 rfl (fun z => z) rfl
def gL_c2731 (i : Int32) (j : mm_H → Option (Bool × mm_H)) (h : mm_H) : Option (Bool × mm_H) :=
if mm_isb ((i + 1)) (mh_I h 360 0) = true then
if mm_isb ((i + 2)) (mh_I h 360 0) = true then
(gL_issue ((mh_I h 360 (Int32.toNatClampNeg ((i + 1)) + 1))) ((mh_I h 360 (Int32.toNatClampNeg ((i + 2)) + 1))) h).bind (fun (x3 : (Int32 × mm_H)) =>
if mm_isb ((i + 1)) (mh_I x3.2 360 0) = true then
if mm_isb ((i + 2)) (mh_I x3.2 360 0) = true then
(gX11_issue ((mh_I x3.2 360 (Int32.toNatClampNeg ((i + 1)) + 1))) ((mh_I x3.2 360 (Int32.toNatClampNeg ((i + 2)) + 1))) x3.2).bind (fun (x7 : (Int32 × mm_H)) =>
(gX11_thrown x7.2).bind (fun (x9 : Int32) =>
if x9 = x3.1 then
mm_jn (fun (_ : Unit) =>
j x7.2) (fun (j12 : Unit → Option (Bool × mm_H)) =>
if x3.1 = 0 then
if mm_ibd 0 1 = true then
if (lg_cmp ((mh_J x7.2 358 (Int32.toNatClampNeg (0)))) ((x7.1).toInt64)) = 0 then
j12 ()
else
some (false, x7.2) else none
else
j12 ())
else
some (false, x7.2))) else none else none) else none else none
theorem rL_c2731 (i : Int32) (j : mm_H → Option (Bool × mm_H)) (jp : ∀ h, mm_E2 mm_SQ mm_SQ mL_law 3496 [some (.ref 360), some (.ref 0), some (.ref 352), some (.ref 358), some (.ref 359), some (.int i), none, none, none] [] h (j h) lf_ze) (h : mm_H) : mm_E2 mm_SQ mm_SQ mL_law 2731 [some (.ref 360), some (.ref 0), some (.ref 352), some (.ref 358), some (.ref 359), some (.int i), none, none, none] [] h (gL_c2731 i j h) lf_ze := by
  unfold gL_c2731
  refine me_aload_n (pc' := 2732) (i := 1) dL_law_2731 rfl rfl rfl ?_
  refine me_aload_n (pc' := 2733) (i := 0) dL_law_2732 rfl rfl rfl ?_
  refine me_iload (pc' := 2735) (i := 5) dL_law_2733 rfl rfl ?_
  refine me_iconst (pc' := 2736) (v := 1) dL_law_2735 rfl kc_i1 ?_
  refine me_iadd (pc' := 2737) dL_law_2736 rfl ?_
  refine mm_guard (fun c1 => ?_)
  refine me_scld (pc' := 2738) dL_law_2737 rfl c1 ?_
  refine me_aload_n (pc' := 2739) (i := 0) dL_law_2738 rfl rfl rfl ?_
  refine me_iload (pc' := 2741) (i := 5) dL_law_2739 rfl rfl ?_
  refine me_iconst (pc' := 2742) (v := 2) dL_law_2741 rfl kc_i2 ?_
  refine me_iadd (pc' := 2743) dL_law_2742 rfl ?_
  refine mm_guard (fun c2 => ?_)
  refine me_scld (pc' := 2744) dL_law_2743 rfl c2 ?_
  refine me_aload_n (pc' := 2745) (i := 3) dL_law_2744 rfl rfl rfl ?_
  refine me_callSX (As := [.ref 0, .int (mh_I h 360 (Int32.toNatClampNeg ((i + 1)) + 1)), .int (mh_I h 360 (Int32.toNatClampNeg ((i + 2)) + 1)), .ref 358]) (st := []) (F' := mm_SQ) (G' := mm_SQ) (F'' := mm_SQ) (pc' := 2748) dL_law_2745 rfl mfL_issue rfl lx_343 ⟨Nat.le_of_ble_eq_true rfl, Nat.le_of_ble_eq_true rfl⟩ (Nat.le_of_ble_eq_true rfl) (fun z => z) (mm_RQ (fun t => rL_issue (q := (360, t)) ((mh_I h 360 (Int32.toNatClampNeg ((i + 1)) + 1))) ((mh_I h 360 (Int32.toNatClampNeg ((i + 2)) + 1))) h (Nat.le_of_ble_eq_true rfl))) (fun x3 e4 => Or.inl ⟨_, _, rfl, fun z => z, ?_⟩)
  show mm_E2 _ _ _ _ _ [.int x3.1] x3.2 _ _
  refine me_istore (pc' := 2750) (i := 6) (L' := [some (.ref 360), some (.ref 0), some (.ref 352), some (.ref 358), some (.ref 359), some (.int i), some (.int x3.1), none, none]) dL_law_2748 rfl (Nat.le_of_ble_eq_true rfl) (Nat.le_of_ble_eq_true rfl) rfl ?_
  refine me_aload_n (pc' := 2751) (i := 2) dL_law_2750 rfl rfl rfl ?_
  refine me_aload_n (pc' := 2752) (i := 0) dL_law_2751 rfl rfl rfl ?_
  refine me_iload (pc' := 2754) (i := 5) dL_law_2752 rfl rfl ?_
  refine me_iconst (pc' := 2755) (v := 1) dL_law_2754 rfl kc_i1 ?_
  refine me_iadd (pc' := 2756) dL_law_2755 rfl ?_
  refine mm_guard (fun c5 => ?_)
  refine me_scld (pc' := 2757) dL_law_2756 rfl c5 ?_
  refine me_aload_n (pc' := 2758) (i := 0) dL_law_2757 rfl rfl rfl ?_
  refine me_iload (pc' := 2760) (i := 5) dL_law_2758 rfl rfl ?_
  refine me_iconst (pc' := 2761) (v := 2) dL_law_2760 rfl kc_i2 ?_
  refine me_iadd (pc' := 2762) dL_law_2761 rfl ?_
  refine mm_guard (fun c6 => ?_)
  refine me_scld (pc' := 2763) dL_law_2762 rfl c6 ?_
  refine me_callV (As := [.int (mh_I x3.2 360 (Int32.toNatClampNeg ((i + 1)) + 1)), .int (mh_I x3.2 360 (Int32.toNatClampNeg ((i + 2)) + 1))]) (st := []) (F' := mm_SQ) (G' := mm_SQ) (F'' := mm_SQ) (pc' := 2766) dL_law_2763 rfl mfX11_issue rfl lkL_345 kd_352 rfl (mm_ltQ kd_352) ⟨Nat.le_of_ble_eq_true rfl, Nat.le_of_ble_eq_true rfl⟩ (Nat.le_of_ble_eq_true rfl) (fun z => z) (mm_RQ (fun t => rX11_issue (q := (360, t)) ((mh_I x3.2 360 (Int32.toNatClampNeg ((i + 1)) + 1))) ((mh_I x3.2 360 (Int32.toNatClampNeg ((i + 2)) + 1))) x3.2 (Nat.le_of_ble_eq_true rfl))) (fun x7 e8 => Or.inl ⟨_, _, rfl, fun z => z, ?_⟩)
  show mm_E2 _ _ _ _ _ [.int x7.1] x7.2 _ _
  refine me_istore (pc' := 2768) (i := 7) (L' := [some (.ref 360), some (.ref 0), some (.ref 352), some (.ref 358), some (.ref 359), some (.int i), some (.int x3.1), some (.int x7.1), none]) dL_law_2766 rfl (Nat.le_of_ble_eq_true rfl) (Nat.le_of_ble_eq_true rfl) rfl ?_
  refine me_aload_n (pc' := 2769) (i := 2) dL_law_2768 rfl rfl rfl ?_
  refine me_callV (As := []) (st := []) (F' := mm_SQ) (G' := mm_SQ) (F'' := mm_SQ) (pc' := 2772) dL_law_2769 rfl mfX11_thrown rfl lkL_186 kd_352 rfl (mm_ltQ kd_352) ⟨Nat.le_of_ble_eq_true rfl, Nat.le_of_ble_eq_true rfl⟩ (Nat.le_of_ble_eq_true rfl) (fun z => z) (mm_RQ (fun t => rX11_thrown (q := (360, t)) x7.2 (Nat.le_of_ble_eq_true rfl))) (fun x9 e10 => Or.inl ⟨_, _, rfl, fun z => z, ?_⟩)
  show mm_E2 _ _ _ _ _ [.int x9] x7.2 _ _
  refine me_iload (pc' := 2774) (i := 6) dL_law_2772 rfl rfl ?_
  refine me_icmp_eq (pc' := 2777) (tgt := 2779) dL_law_2774 (by decide) rfl (fun c11 => ?_) (fun c11 => ?_)
  · refine me_iload (pc' := 2781) (i := 6) dL_law_2779 rfl rfl ?_
    refine mm_jnI (fun (j129 : Unit → Option (Bool × mm_H)) => ∀ (_ : Unit), mm_E2 mm_SQ mm_SQ mL_law 2796 [some (.ref 360), some (.ref 0), some (.ref 352), some (.ref 358), some (.ref 359), some (.int i), none, none, none] [] x7.2 (j129 ()) lf_ze) ?_ (fun j12 j12p => ?_)
    · intro _
      refine me_goto (tgt := 3496) dL_law_2796 (by decide) ?_
      exact jp x7.2
    refine me_if_ne (pc' := 2784) (tgt := 2796) dL_law_2781 (by decide) rfl (fun c13 => ?_) (fun c13 => ?_)
    · exact mm_maskB [true, true, true, true, true, true, false, false, false] (j12p ())
    · refine me_aload_n (pc' := 2785) (i := 3) dL_law_2784 rfl rfl rfl ?_
      refine me_iconst (pc' := 2786) (v := 0) dL_law_2785 rfl kc_i0 ?_
      refine mm_guard (fun c14 => ?_)
      refine me_lald (pc' := 2787) dL_law_2786 rfl kd_358 (mm_ltQ kd_358) (mm_ibd_of c14) ?_
      refine me_iload (pc' := 2789) (i := 7) dL_law_2787 rfl rfl ?_
      refine me_i2l (pc' := 2790) dL_law_2789 rfl ?_
      refine me_lcmp (pc' := 2791) dL_law_2790 rfl ?_
      refine me_if_eq (pc' := 2794) (tgt := 2796) dL_law_2791 (by decide) rfl (fun c15 => ?_) (fun c15 => ?_)
      · exact mm_maskB [true, true, true, true, true, true, false, false, false] (j12p ())
      · refine me_iconst (pc' := 2795) (v := 0) dL_law_2794 rfl kc_i0 ?_
        exact me_zret (b := false) dL_law_2795 rfl (fun z => z) rfl
  · refine me_iconst (pc' := 2778) (v := 0) dL_law_2777 rfl kc_i0 ?_
    exact me_zret (b := false) dL_law_2778 rfl (fun z => z) rfl
def gL_c2799 (i : Int32) (j : mm_H → Option (Bool × mm_H)) (h : mm_H) : Option (Bool × mm_H) :=
if mm_isb ((i + 1)) (mh_I h 360 0) = true then
if mm_isb ((i + 2)) (mh_I h 360 0) = true then
if mm_isb ((i + 3)) (mh_I h 360 0) = true then
(gL_reserve ((mh_I h 360 (Int32.toNatClampNeg ((i + 1)) + 1))) ((mh_I h 360 (Int32.toNatClampNeg ((i + 2)) + 1))) ((mh_I h 360 (Int32.toNatClampNeg ((i + 3)) + 1))) h).bind (fun (x4 : (Int32 × mm_H)) =>
if mm_isb ((i + 1)) (mh_I x4.2 360 0) = true then
if mm_isb ((i + 2)) (mh_I x4.2 360 0) = true then
if mm_isb ((i + 3)) (mh_I x4.2 360 0) = true then
(gX11_reserve ((mh_I x4.2 360 (Int32.toNatClampNeg ((i + 1)) + 1))) ((mh_I x4.2 360 (Int32.toNatClampNeg ((i + 2)) + 1))) ((mh_I x4.2 360 (Int32.toNatClampNeg ((i + 3)) + 1))) x4.2).bind (fun (x9 : (Int32 × mm_H)) =>
(gX11_thrown x9.2).bind (fun (x11 : Int32) =>
if x11 = x4.1 then
mm_jn (fun (_ : Unit) =>
j x9.2) (fun (j14 : Unit → Option (Bool × mm_H)) =>
if x4.1 = 0 then
if mm_ibd 0 1 = true then
if (lg_cmp ((mh_J x9.2 358 (Int32.toNatClampNeg (0)))) ((x9.1).toInt64)) = 0 then
j14 ()
else
some (false, x9.2) else none
else
j14 ())
else
some (false, x9.2))) else none else none else none) else none else none else none
theorem rL_c2799 (i : Int32) (j : mm_H → Option (Bool × mm_H)) (jp : ∀ h, mm_E2 mm_SQ mm_SQ mL_law 3496 [some (.ref 360), some (.ref 0), some (.ref 352), some (.ref 358), some (.ref 359), some (.int i), none, none, none] [] h (j h) lf_ze) (h : mm_H) : mm_E2 mm_SQ mm_SQ mL_law 2799 [some (.ref 360), some (.ref 0), some (.ref 352), some (.ref 358), some (.ref 359), some (.int i), none, none, none] [] h (gL_c2799 i j h) lf_ze := by
  unfold gL_c2799
  refine me_aload_n (pc' := 2800) (i := 1) dL_law_2799 rfl rfl rfl ?_
  refine me_aload_n (pc' := 2801) (i := 0) dL_law_2800 rfl rfl rfl ?_
  refine me_iload (pc' := 2803) (i := 5) dL_law_2801 rfl rfl ?_
  refine me_iconst (pc' := 2804) (v := 1) dL_law_2803 rfl kc_i1 ?_
  refine me_iadd (pc' := 2805) dL_law_2804 rfl ?_
  refine mm_guard (fun c1 => ?_)
  refine me_scld (pc' := 2806) dL_law_2805 rfl c1 ?_
  refine me_aload_n (pc' := 2807) (i := 0) dL_law_2806 rfl rfl rfl ?_
  refine me_iload (pc' := 2809) (i := 5) dL_law_2807 rfl rfl ?_
  refine me_iconst (pc' := 2810) (v := 2) dL_law_2809 rfl kc_i2 ?_
  refine me_iadd (pc' := 2811) dL_law_2810 rfl ?_
  refine mm_guard (fun c2 => ?_)
  refine me_scld (pc' := 2812) dL_law_2811 rfl c2 ?_
  refine me_aload_n (pc' := 2813) (i := 0) dL_law_2812 rfl rfl rfl ?_
  refine me_iload (pc' := 2815) (i := 5) dL_law_2813 rfl rfl ?_
  refine me_iconst (pc' := 2816) (v := 3) dL_law_2815 rfl kc_i3 ?_
  refine me_iadd (pc' := 2817) dL_law_2816 rfl ?_
  refine mm_guard (fun c3 => ?_)
  refine me_scld (pc' := 2818) dL_law_2817 rfl c3 ?_
  refine me_aload_n (pc' := 2819) (i := 3) dL_law_2818 rfl rfl rfl ?_
  refine me_callSX (As := [.ref 0, .int (mh_I h 360 (Int32.toNatClampNeg ((i + 1)) + 1)), .int (mh_I h 360 (Int32.toNatClampNeg ((i + 2)) + 1)), .int (mh_I h 360 (Int32.toNatClampNeg ((i + 3)) + 1)), .ref 358]) (st := []) (F' := mm_SQ) (G' := mm_SQ) (F'' := mm_SQ) (pc' := 2822) dL_law_2819 rfl mfL_reserve rfl lx_346 ⟨Nat.le_of_ble_eq_true rfl, Nat.le_of_ble_eq_true rfl⟩ (Nat.le_of_ble_eq_true rfl) (fun z => z) (mm_RQ (fun t => rL_reserve (q := (360, t)) ((mh_I h 360 (Int32.toNatClampNeg ((i + 1)) + 1))) ((mh_I h 360 (Int32.toNatClampNeg ((i + 2)) + 1))) ((mh_I h 360 (Int32.toNatClampNeg ((i + 3)) + 1))) h (Nat.le_of_ble_eq_true rfl))) (fun x4 e5 => Or.inl ⟨_, _, rfl, fun z => z, ?_⟩)
  show mm_E2 _ _ _ _ _ [.int x4.1] x4.2 _ _
  refine me_istore (pc' := 2824) (i := 6) (L' := [some (.ref 360), some (.ref 0), some (.ref 352), some (.ref 358), some (.ref 359), some (.int i), some (.int x4.1), none, none]) dL_law_2822 rfl (Nat.le_of_ble_eq_true rfl) (Nat.le_of_ble_eq_true rfl) rfl ?_
  refine me_aload_n (pc' := 2825) (i := 2) dL_law_2824 rfl rfl rfl ?_
  refine me_aload_n (pc' := 2826) (i := 0) dL_law_2825 rfl rfl rfl ?_
  refine me_iload (pc' := 2828) (i := 5) dL_law_2826 rfl rfl ?_
  refine me_iconst (pc' := 2829) (v := 1) dL_law_2828 rfl kc_i1 ?_
  refine me_iadd (pc' := 2830) dL_law_2829 rfl ?_
  refine mm_guard (fun c6 => ?_)
  refine me_scld (pc' := 2831) dL_law_2830 rfl c6 ?_
  refine me_aload_n (pc' := 2832) (i := 0) dL_law_2831 rfl rfl rfl ?_
  refine me_iload (pc' := 2834) (i := 5) dL_law_2832 rfl rfl ?_
  refine me_iconst (pc' := 2835) (v := 2) dL_law_2834 rfl kc_i2 ?_
  refine me_iadd (pc' := 2836) dL_law_2835 rfl ?_
  refine mm_guard (fun c7 => ?_)
  refine me_scld (pc' := 2837) dL_law_2836 rfl c7 ?_
  refine me_aload_n (pc' := 2838) (i := 0) dL_law_2837 rfl rfl rfl ?_
  refine me_iload (pc' := 2840) (i := 5) dL_law_2838 rfl rfl ?_
  refine me_iconst (pc' := 2841) (v := 3) dL_law_2840 rfl kc_i3 ?_
  refine me_iadd (pc' := 2842) dL_law_2841 rfl ?_
  refine mm_guard (fun c8 => ?_)
  refine me_scld (pc' := 2843) dL_law_2842 rfl c8 ?_
  refine me_callV (As := [.int (mh_I x4.2 360 (Int32.toNatClampNeg ((i + 1)) + 1)), .int (mh_I x4.2 360 (Int32.toNatClampNeg ((i + 2)) + 1)), .int (mh_I x4.2 360 (Int32.toNatClampNeg ((i + 3)) + 1))]) (st := []) (F' := mm_SQ) (G' := mm_SQ) (F'' := mm_SQ) (pc' := 2846) dL_law_2843 rfl mfX11_reserve rfl lkL_348 kd_352 rfl (mm_ltQ kd_352) ⟨Nat.le_of_ble_eq_true rfl, Nat.le_of_ble_eq_true rfl⟩ (Nat.le_of_ble_eq_true rfl) (fun z => z) (mm_RQ (fun t => rX11_reserve (q := (360, t)) ((mh_I x4.2 360 (Int32.toNatClampNeg ((i + 1)) + 1))) ((mh_I x4.2 360 (Int32.toNatClampNeg ((i + 2)) + 1))) ((mh_I x4.2 360 (Int32.toNatClampNeg ((i + 3)) + 1))) x4.2 (Nat.le_of_ble_eq_true rfl))) (fun x9 e10 => Or.inl ⟨_, _, rfl, fun z => z, ?_⟩)
  show mm_E2 _ _ _ _ _ [.int x9.1] x9.2 _ _
  refine me_istore (pc' := 2848) (i := 7) (L' := [some (.ref 360), some (.ref 0), some (.ref 352), some (.ref 358), some (.ref 359), some (.int i), some (.int x4.1), some (.int x9.1), none]) dL_law_2846 rfl (Nat.le_of_ble_eq_true rfl) (Nat.le_of_ble_eq_true rfl) rfl ?_
  refine me_aload_n (pc' := 2849) (i := 2) dL_law_2848 rfl rfl rfl ?_
  refine me_callV (As := []) (st := []) (F' := mm_SQ) (G' := mm_SQ) (F'' := mm_SQ) (pc' := 2852) dL_law_2849 rfl mfX11_thrown rfl lkL_186 kd_352 rfl (mm_ltQ kd_352) ⟨Nat.le_of_ble_eq_true rfl, Nat.le_of_ble_eq_true rfl⟩ (Nat.le_of_ble_eq_true rfl) (fun z => z) (mm_RQ (fun t => rX11_thrown (q := (360, t)) x9.2 (Nat.le_of_ble_eq_true rfl))) (fun x11 e12 => Or.inl ⟨_, _, rfl, fun z => z, ?_⟩)
  show mm_E2 _ _ _ _ _ [.int x11] x9.2 _ _
  refine me_iload (pc' := 2854) (i := 6) dL_law_2852 rfl rfl ?_
  refine me_icmp_eq (pc' := 2857) (tgt := 2859) dL_law_2854 (by decide) rfl (fun c13 => ?_) (fun c13 => ?_)
  · refine me_iload (pc' := 2861) (i := 6) dL_law_2859 rfl rfl ?_
    refine mm_jnI (fun (j149 : Unit → Option (Bool × mm_H)) => ∀ (_ : Unit), mm_E2 mm_SQ mm_SQ mL_law 2876 [some (.ref 360), some (.ref 0), some (.ref 352), some (.ref 358), some (.ref 359), some (.int i), none, none, none] [] x9.2 (j149 ()) lf_ze) ?_ (fun j14 j14p => ?_)
    · intro _
      refine me_goto (tgt := 3496) dL_law_2876 (by decide) ?_
      exact jp x9.2
    refine me_if_ne (pc' := 2864) (tgt := 2876) dL_law_2861 (by decide) rfl (fun c15 => ?_) (fun c15 => ?_)
    · exact mm_maskB [true, true, true, true, true, true, false, false, false] (j14p ())
    · refine me_aload_n (pc' := 2865) (i := 3) dL_law_2864 rfl rfl rfl ?_
      refine me_iconst (pc' := 2866) (v := 0) dL_law_2865 rfl kc_i0 ?_
      refine mm_guard (fun c16 => ?_)
      refine me_lald (pc' := 2867) dL_law_2866 rfl kd_358 (mm_ltQ kd_358) (mm_ibd_of c16) ?_
      refine me_iload (pc' := 2869) (i := 7) dL_law_2867 rfl rfl ?_
      refine me_i2l (pc' := 2870) dL_law_2869 rfl ?_
      refine me_lcmp (pc' := 2871) dL_law_2870 rfl ?_
      refine me_if_eq (pc' := 2874) (tgt := 2876) dL_law_2871 (by decide) rfl (fun c17 => ?_) (fun c17 => ?_)
      · exact mm_maskB [true, true, true, true, true, true, false, false, false] (j14p ())
      · refine me_iconst (pc' := 2875) (v := 0) dL_law_2874 rfl kc_i0 ?_
        exact me_zret (b := false) dL_law_2875 rfl (fun z => z) rfl
  · refine me_iconst (pc' := 2858) (v := 0) dL_law_2857 rfl kc_i0 ?_
    exact me_zret (b := false) dL_law_2858 rfl (fun z => z) rfl
def gL_c2879 (i : Int32) (j : mm_H → Option (Bool × mm_H)) (h : mm_H) : Option (Bool × mm_H) :=
if mm_isb ((i + 1)) (mh_I h 360 0) = true then
(gL_ship ((mh_I h 360 (Int32.toNatClampNeg ((i + 1)) + 1))) h).bind (fun (x2 : (Int32 × mm_H)) =>
if mm_isb ((i + 1)) (mh_I x2.2 360 0) = true then
(gX11_ship ((mh_I x2.2 360 (Int32.toNatClampNeg ((i + 1)) + 1))) x2.2).bind (fun (x5 : (Int32 × mm_H)) =>
(gX11_thrown x5.2).bind (fun (x7 : Int32) =>
if x7 = x2.1 then
mm_jn (fun (_ : Unit) =>
j x5.2) (fun (j10 : Unit → Option (Bool × mm_H)) =>
if x2.1 = 0 then
if mm_ibd 0 1 = true then
if (lg_cmp ((mh_J x5.2 358 (Int32.toNatClampNeg (0)))) ((x5.1).toInt64)) = 0 then
j10 ()
else
some (false, x5.2) else none
else
j10 ())
else
some (false, x5.2))) else none) else none
theorem rL_c2879 (i : Int32) (j : mm_H → Option (Bool × mm_H)) (jp : ∀ h, mm_E2 mm_SQ mm_SQ mL_law 3496 [some (.ref 360), some (.ref 0), some (.ref 352), some (.ref 358), some (.ref 359), some (.int i), none, none, none] [] h (j h) lf_ze) (h : mm_H) : mm_E2 mm_SQ mm_SQ mL_law 2879 [some (.ref 360), some (.ref 0), some (.ref 352), some (.ref 358), some (.ref 359), some (.int i), none, none, none] [] h (gL_c2879 i j h) lf_ze := by
  unfold gL_c2879
  refine me_aload_n (pc' := 2880) (i := 1) dL_law_2879 rfl rfl rfl ?_
  refine me_aload_n (pc' := 2881) (i := 0) dL_law_2880 rfl rfl rfl ?_
  refine me_iload (pc' := 2883) (i := 5) dL_law_2881 rfl rfl ?_
  refine me_iconst (pc' := 2884) (v := 1) dL_law_2883 rfl kc_i1 ?_
  refine me_iadd (pc' := 2885) dL_law_2884 rfl ?_
  refine mm_guard (fun c1 => ?_)
  refine me_scld (pc' := 2886) dL_law_2885 rfl c1 ?_
  refine me_aload_n (pc' := 2887) (i := 3) dL_law_2886 rfl rfl rfl ?_
  refine me_callSX (As := [.ref 0, .int (mh_I h 360 (Int32.toNatClampNeg ((i + 1)) + 1)), .ref 358]) (st := []) (F' := mm_SQ) (G' := mm_SQ) (F'' := mm_SQ) (pc' := 2890) dL_law_2887 rfl mfL_ship rfl lx_349 ⟨Nat.le_of_ble_eq_true rfl, Nat.le_of_ble_eq_true rfl⟩ (Nat.le_of_ble_eq_true rfl) (fun z => z) (mm_RQ (fun t => rL_ship (q := (360, t)) ((mh_I h 360 (Int32.toNatClampNeg ((i + 1)) + 1))) h (Nat.le_of_ble_eq_true rfl))) (fun x2 e3 => Or.inl ⟨_, _, rfl, fun z => z, ?_⟩)
  show mm_E2 _ _ _ _ _ [.int x2.1] x2.2 _ _
  refine me_istore (pc' := 2892) (i := 6) (L' := [some (.ref 360), some (.ref 0), some (.ref 352), some (.ref 358), some (.ref 359), some (.int i), some (.int x2.1), none, none]) dL_law_2890 rfl (Nat.le_of_ble_eq_true rfl) (Nat.le_of_ble_eq_true rfl) rfl ?_
  refine me_aload_n (pc' := 2893) (i := 2) dL_law_2892 rfl rfl rfl ?_
  refine me_aload_n (pc' := 2894) (i := 0) dL_law_2893 rfl rfl rfl ?_
  refine me_iload (pc' := 2896) (i := 5) dL_law_2894 rfl rfl ?_
  refine me_iconst (pc' := 2897) (v := 1) dL_law_2896 rfl kc_i1 ?_
  refine me_iadd (pc' := 2898) dL_law_2897 rfl ?_
  refine mm_guard (fun c4 => ?_)
  refine me_scld (pc' := 2899) dL_law_2898 rfl c4 ?_
  refine me_callV (As := [.int (mh_I x2.2 360 (Int32.toNatClampNeg ((i + 1)) + 1))]) (st := []) (F' := mm_SQ) (G' := mm_SQ) (F'' := mm_SQ) (pc' := 2902) dL_law_2899 rfl mfX11_ship rfl lkL_351 kd_352 rfl (mm_ltQ kd_352) ⟨Nat.le_of_ble_eq_true rfl, Nat.le_of_ble_eq_true rfl⟩ (Nat.le_of_ble_eq_true rfl) (fun z => z) (mm_RQ (fun t => rX11_ship (q := (360, t)) ((mh_I x2.2 360 (Int32.toNatClampNeg ((i + 1)) + 1))) x2.2 (Nat.le_of_ble_eq_true rfl))) (fun x5 e6 => Or.inl ⟨_, _, rfl, fun z => z, ?_⟩)
  show mm_E2 _ _ _ _ _ [.int x5.1] x5.2 _ _
  refine me_istore (pc' := 2904) (i := 7) (L' := [some (.ref 360), some (.ref 0), some (.ref 352), some (.ref 358), some (.ref 359), some (.int i), some (.int x2.1), some (.int x5.1), none]) dL_law_2902 rfl (Nat.le_of_ble_eq_true rfl) (Nat.le_of_ble_eq_true rfl) rfl ?_
  refine me_aload_n (pc' := 2905) (i := 2) dL_law_2904 rfl rfl rfl ?_
  refine me_callV (As := []) (st := []) (F' := mm_SQ) (G' := mm_SQ) (F'' := mm_SQ) (pc' := 2908) dL_law_2905 rfl mfX11_thrown rfl lkL_186 kd_352 rfl (mm_ltQ kd_352) ⟨Nat.le_of_ble_eq_true rfl, Nat.le_of_ble_eq_true rfl⟩ (Nat.le_of_ble_eq_true rfl) (fun z => z) (mm_RQ (fun t => rX11_thrown (q := (360, t)) x5.2 (Nat.le_of_ble_eq_true rfl))) (fun x7 e8 => Or.inl ⟨_, _, rfl, fun z => z, ?_⟩)
  show mm_E2 _ _ _ _ _ [.int x7] x5.2 _ _
  refine me_iload (pc' := 2910) (i := 6) dL_law_2908 rfl rfl ?_
  refine me_icmp_eq (pc' := 2913) (tgt := 2915) dL_law_2910 (by decide) rfl (fun c9 => ?_) (fun c9 => ?_)
  · refine me_iload (pc' := 2917) (i := 6) dL_law_2915 rfl rfl ?_
    refine mm_jnI (fun (j109 : Unit → Option (Bool × mm_H)) => ∀ (_ : Unit), mm_E2 mm_SQ mm_SQ mL_law 2932 [some (.ref 360), some (.ref 0), some (.ref 352), some (.ref 358), some (.ref 359), some (.int i), none, none, none] [] x5.2 (j109 ()) lf_ze) ?_ (fun j10 j10p => ?_)
    · intro _
      refine me_goto (tgt := 3496) dL_law_2932 (by decide) ?_
      exact jp x5.2
    refine me_if_ne (pc' := 2920) (tgt := 2932) dL_law_2917 (by decide) rfl (fun c11 => ?_) (fun c11 => ?_)
    · exact mm_maskB [true, true, true, true, true, true, false, false, false] (j10p ())
    · refine me_aload_n (pc' := 2921) (i := 3) dL_law_2920 rfl rfl rfl ?_
      refine me_iconst (pc' := 2922) (v := 0) dL_law_2921 rfl kc_i0 ?_
      refine mm_guard (fun c12 => ?_)
      refine me_lald (pc' := 2923) dL_law_2922 rfl kd_358 (mm_ltQ kd_358) (mm_ibd_of c12) ?_
      refine me_iload (pc' := 2925) (i := 7) dL_law_2923 rfl rfl ?_
      refine me_i2l (pc' := 2926) dL_law_2925 rfl ?_
      refine me_lcmp (pc' := 2927) dL_law_2926 rfl ?_
      refine me_if_eq (pc' := 2930) (tgt := 2932) dL_law_2927 (by decide) rfl (fun c13 => ?_) (fun c13 => ?_)
      · exact mm_maskB [true, true, true, true, true, true, false, false, false] (j10p ())
      · refine me_iconst (pc' := 2931) (v := 0) dL_law_2930 rfl kc_i0 ?_
        exact me_zret (b := false) dL_law_2931 rfl (fun z => z) rfl
  · refine me_iconst (pc' := 2914) (v := 0) dL_law_2913 rfl kc_i0 ?_
    exact me_zret (b := false) dL_law_2914 rfl (fun z => z) rfl
def gL_c2935 (i : Int32) (j : mm_H → Option (Bool × mm_H)) (h : mm_H) : Option (Bool × mm_H) :=
if mm_isb ((i + 1)) (mh_I h 360 0) = true then
(gL_cancel ((mh_I h 360 (Int32.toNatClampNeg ((i + 1)) + 1))) h).bind (fun (x2 : (Int32 × mm_H)) =>
if mm_isb ((i + 1)) (mh_I x2.2 360 0) = true then
(gX11_cancel ((mh_I x2.2 360 (Int32.toNatClampNeg ((i + 1)) + 1))) x2.2).bind (fun (x5 : (Int32 × mm_H)) =>
(gX11_thrown x5.2).bind (fun (x7 : Int32) =>
if x7 = x2.1 then
mm_jn (fun (_ : Unit) =>
j x5.2) (fun (j10 : Unit → Option (Bool × mm_H)) =>
if x2.1 = 0 then
if mm_ibd 0 1 = true then
if (lg_cmp ((mh_J x5.2 358 (Int32.toNatClampNeg (0)))) ((x5.1).toInt64)) = 0 then
j10 ()
else
some (false, x5.2) else none
else
j10 ())
else
some (false, x5.2))) else none) else none
theorem rL_c2935 (i : Int32) (j : mm_H → Option (Bool × mm_H)) (jp : ∀ h, mm_E2 mm_SQ mm_SQ mL_law 3496 [some (.ref 360), some (.ref 0), some (.ref 352), some (.ref 358), some (.ref 359), some (.int i), none, none, none] [] h (j h) lf_ze) (h : mm_H) : mm_E2 mm_SQ mm_SQ mL_law 2935 [some (.ref 360), some (.ref 0), some (.ref 352), some (.ref 358), some (.ref 359), some (.int i), none, none, none] [] h (gL_c2935 i j h) lf_ze := by
  unfold gL_c2935
  refine me_aload_n (pc' := 2936) (i := 1) dL_law_2935 rfl rfl rfl ?_
  refine me_aload_n (pc' := 2937) (i := 0) dL_law_2936 rfl rfl rfl ?_
  refine me_iload (pc' := 2939) (i := 5) dL_law_2937 rfl rfl ?_
  refine me_iconst (pc' := 2940) (v := 1) dL_law_2939 rfl kc_i1 ?_
  refine me_iadd (pc' := 2941) dL_law_2940 rfl ?_
  refine mm_guard (fun c1 => ?_)
  refine me_scld (pc' := 2942) dL_law_2941 rfl c1 ?_
  refine me_aload_n (pc' := 2943) (i := 3) dL_law_2942 rfl rfl rfl ?_
  refine me_callSX (As := [.ref 0, .int (mh_I h 360 (Int32.toNatClampNeg ((i + 1)) + 1)), .ref 358]) (st := []) (F' := mm_SQ) (G' := mm_SQ) (F'' := mm_SQ) (pc' := 2946) dL_law_2943 rfl mfL_cancel rfl lx_352 ⟨Nat.le_of_ble_eq_true rfl, Nat.le_of_ble_eq_true rfl⟩ (Nat.le_of_ble_eq_true rfl) (fun z => z) (mm_RQ (fun t => rL_cancel (q := (360, t)) ((mh_I h 360 (Int32.toNatClampNeg ((i + 1)) + 1))) h (Nat.le_of_ble_eq_true rfl))) (fun x2 e3 => Or.inl ⟨_, _, rfl, fun z => z, ?_⟩)
  show mm_E2 _ _ _ _ _ [.int x2.1] x2.2 _ _
  refine me_istore (pc' := 2948) (i := 6) (L' := [some (.ref 360), some (.ref 0), some (.ref 352), some (.ref 358), some (.ref 359), some (.int i), some (.int x2.1), none, none]) dL_law_2946 rfl (Nat.le_of_ble_eq_true rfl) (Nat.le_of_ble_eq_true rfl) rfl ?_
  refine me_aload_n (pc' := 2949) (i := 2) dL_law_2948 rfl rfl rfl ?_
  refine me_aload_n (pc' := 2950) (i := 0) dL_law_2949 rfl rfl rfl ?_
  refine me_iload (pc' := 2952) (i := 5) dL_law_2950 rfl rfl ?_
  refine me_iconst (pc' := 2953) (v := 1) dL_law_2952 rfl kc_i1 ?_
  refine me_iadd (pc' := 2954) dL_law_2953 rfl ?_
  refine mm_guard (fun c4 => ?_)
  refine me_scld (pc' := 2955) dL_law_2954 rfl c4 ?_
  refine me_callV (As := [.int (mh_I x2.2 360 (Int32.toNatClampNeg ((i + 1)) + 1))]) (st := []) (F' := mm_SQ) (G' := mm_SQ) (F'' := mm_SQ) (pc' := 2958) dL_law_2955 rfl mfX11_cancel rfl lkL_354 kd_352 rfl (mm_ltQ kd_352) ⟨Nat.le_of_ble_eq_true rfl, Nat.le_of_ble_eq_true rfl⟩ (Nat.le_of_ble_eq_true rfl) (fun z => z) (mm_RQ (fun t => rX11_cancel (q := (360, t)) ((mh_I x2.2 360 (Int32.toNatClampNeg ((i + 1)) + 1))) x2.2 (Nat.le_of_ble_eq_true rfl))) (fun x5 e6 => Or.inl ⟨_, _, rfl, fun z => z, ?_⟩)
  show mm_E2 _ _ _ _ _ [.int x5.1] x5.2 _ _
  refine me_istore (pc' := 2960) (i := 7) (L' := [some (.ref 360), some (.ref 0), some (.ref 352), some (.ref 358), some (.ref 359), some (.int i), some (.int x2.1), some (.int x5.1), none]) dL_law_2958 rfl (Nat.le_of_ble_eq_true rfl) (Nat.le_of_ble_eq_true rfl) rfl ?_
  refine me_aload_n (pc' := 2961) (i := 2) dL_law_2960 rfl rfl rfl ?_
  refine me_callV (As := []) (st := []) (F' := mm_SQ) (G' := mm_SQ) (F'' := mm_SQ) (pc' := 2964) dL_law_2961 rfl mfX11_thrown rfl lkL_186 kd_352 rfl (mm_ltQ kd_352) ⟨Nat.le_of_ble_eq_true rfl, Nat.le_of_ble_eq_true rfl⟩ (Nat.le_of_ble_eq_true rfl) (fun z => z) (mm_RQ (fun t => rX11_thrown (q := (360, t)) x5.2 (Nat.le_of_ble_eq_true rfl))) (fun x7 e8 => Or.inl ⟨_, _, rfl, fun z => z, ?_⟩)
  show mm_E2 _ _ _ _ _ [.int x7] x5.2 _ _
  refine me_iload (pc' := 2966) (i := 6) dL_law_2964 rfl rfl ?_
  refine me_icmp_eq (pc' := 2969) (tgt := 2971) dL_law_2966 (by decide) rfl (fun c9 => ?_) (fun c9 => ?_)
  · refine me_iload (pc' := 2973) (i := 6) dL_law_2971 rfl rfl ?_
    refine mm_jnI (fun (j109 : Unit → Option (Bool × mm_H)) => ∀ (_ : Unit), mm_E2 mm_SQ mm_SQ mL_law 2988 [some (.ref 360), some (.ref 0), some (.ref 352), some (.ref 358), some (.ref 359), some (.int i), none, none, none] [] x5.2 (j109 ()) lf_ze) ?_ (fun j10 j10p => ?_)
    · intro _
      refine me_goto (tgt := 3496) dL_law_2988 (by decide) ?_
      exact jp x5.2
    refine me_if_ne (pc' := 2976) (tgt := 2988) dL_law_2973 (by decide) rfl (fun c11 => ?_) (fun c11 => ?_)
    · exact mm_maskB [true, true, true, true, true, true, false, false, false] (j10p ())
    · refine me_aload_n (pc' := 2977) (i := 3) dL_law_2976 rfl rfl rfl ?_
      refine me_iconst (pc' := 2978) (v := 0) dL_law_2977 rfl kc_i0 ?_
      refine mm_guard (fun c12 => ?_)
      refine me_lald (pc' := 2979) dL_law_2978 rfl kd_358 (mm_ltQ kd_358) (mm_ibd_of c12) ?_
      refine me_iload (pc' := 2981) (i := 7) dL_law_2979 rfl rfl ?_
      refine me_i2l (pc' := 2982) dL_law_2981 rfl ?_
      refine me_lcmp (pc' := 2983) dL_law_2982 rfl ?_
      refine me_if_eq (pc' := 2986) (tgt := 2988) dL_law_2983 (by decide) rfl (fun c13 => ?_) (fun c13 => ?_)
      · exact mm_maskB [true, true, true, true, true, true, false, false, false] (j10p ())
      · refine me_iconst (pc' := 2987) (v := 0) dL_law_2986 rfl kc_i0 ?_
        exact me_zret (b := false) dL_law_2987 rfl (fun z => z) rfl
  · refine me_iconst (pc' := 2970) (v := 0) dL_law_2969 rfl kc_i0 ?_
    exact me_zret (b := false) dL_law_2970 rfl (fun z => z) rfl
def gL_c2991 (i : Int32) (j : mm_H → Option (Bool × mm_H)) (h : mm_H) : Option (Bool × mm_H) :=
if mm_isb ((i + 1)) (mh_I h 360 0) = true then
(gL_refill ((mh_I h 360 (Int32.toNatClampNeg ((i + 1)) + 1))) h).bind (fun (x2 : (Int32 × mm_H)) =>
if mm_isb ((i + 1)) (mh_I x2.2 360 0) = true then
(gX11_refill ((mh_I x2.2 360 (Int32.toNatClampNeg ((i + 1)) + 1))) x2.2).bind (fun (x5 : (Int32 × mm_H)) =>
(gX11_thrown x5.2).bind (fun (x7 : Int32) =>
if x7 = x2.1 then
mm_jn (fun (_ : Unit) =>
j x5.2) (fun (j10 : Unit → Option (Bool × mm_H)) =>
if x2.1 = 0 then
if mm_ibd 0 1 = true then
if (lg_cmp ((mh_J x5.2 358 (Int32.toNatClampNeg (0)))) ((x5.1).toInt64)) = 0 then
j10 ()
else
some (false, x5.2) else none
else
j10 ())
else
some (false, x5.2))) else none) else none
theorem rL_c2991 (i : Int32) (j : mm_H → Option (Bool × mm_H)) (jp : ∀ h, mm_E2 mm_SQ mm_SQ mL_law 3496 [some (.ref 360), some (.ref 0), some (.ref 352), some (.ref 358), some (.ref 359), some (.int i), none, none, none] [] h (j h) lf_ze) (h : mm_H) : mm_E2 mm_SQ mm_SQ mL_law 2991 [some (.ref 360), some (.ref 0), some (.ref 352), some (.ref 358), some (.ref 359), some (.int i), none, none, none] [] h (gL_c2991 i j h) lf_ze := by
  unfold gL_c2991
  refine me_aload_n (pc' := 2992) (i := 1) dL_law_2991 rfl rfl rfl ?_
  refine me_aload_n (pc' := 2993) (i := 0) dL_law_2992 rfl rfl rfl ?_
  refine me_iload (pc' := 2995) (i := 5) dL_law_2993 rfl rfl ?_
  refine me_iconst (pc' := 2996) (v := 1) dL_law_2995 rfl kc_i1 ?_
  refine me_iadd (pc' := 2997) dL_law_2996 rfl ?_
  refine mm_guard (fun c1 => ?_)
  refine me_scld (pc' := 2998) dL_law_2997 rfl c1 ?_
  refine me_aload_n (pc' := 2999) (i := 3) dL_law_2998 rfl rfl rfl ?_
  refine me_callSX (As := [.ref 0, .int (mh_I h 360 (Int32.toNatClampNeg ((i + 1)) + 1)), .ref 358]) (st := []) (F' := mm_SQ) (G' := mm_SQ) (F'' := mm_SQ) (pc' := 3002) dL_law_2999 rfl mfL_refill rfl lx_355 ⟨Nat.le_of_ble_eq_true rfl, Nat.le_of_ble_eq_true rfl⟩ (Nat.le_of_ble_eq_true rfl) (fun z => z) (mm_RQ (fun t => rL_refill (q := (360, t)) ((mh_I h 360 (Int32.toNatClampNeg ((i + 1)) + 1))) h (Nat.le_of_ble_eq_true rfl))) (fun x2 e3 => Or.inl ⟨_, _, rfl, fun z => z, ?_⟩)
  show mm_E2 _ _ _ _ _ [.int x2.1] x2.2 _ _
  refine me_istore (pc' := 3004) (i := 6) (L' := [some (.ref 360), some (.ref 0), some (.ref 352), some (.ref 358), some (.ref 359), some (.int i), some (.int x2.1), none, none]) dL_law_3002 rfl (Nat.le_of_ble_eq_true rfl) (Nat.le_of_ble_eq_true rfl) rfl ?_
  refine me_aload_n (pc' := 3005) (i := 2) dL_law_3004 rfl rfl rfl ?_
  refine me_aload_n (pc' := 3006) (i := 0) dL_law_3005 rfl rfl rfl ?_
  refine me_iload (pc' := 3008) (i := 5) dL_law_3006 rfl rfl ?_
  refine me_iconst (pc' := 3009) (v := 1) dL_law_3008 rfl kc_i1 ?_
  refine me_iadd (pc' := 3010) dL_law_3009 rfl ?_
  refine mm_guard (fun c4 => ?_)
  refine me_scld (pc' := 3011) dL_law_3010 rfl c4 ?_
  refine me_callV (As := [.int (mh_I x2.2 360 (Int32.toNatClampNeg ((i + 1)) + 1))]) (st := []) (F' := mm_SQ) (G' := mm_SQ) (F'' := mm_SQ) (pc' := 3014) dL_law_3011 rfl mfX11_refill rfl lkL_357 kd_352 rfl (mm_ltQ kd_352) ⟨Nat.le_of_ble_eq_true rfl, Nat.le_of_ble_eq_true rfl⟩ (Nat.le_of_ble_eq_true rfl) (fun z => z) (mm_RQ (fun t => rX11_refill (q := (360, t)) ((mh_I x2.2 360 (Int32.toNatClampNeg ((i + 1)) + 1))) x2.2 (Nat.le_of_ble_eq_true rfl))) (fun x5 e6 => Or.inl ⟨_, _, rfl, fun z => z, ?_⟩)
  show mm_E2 _ _ _ _ _ [.int x5.1] x5.2 _ _
  refine me_istore (pc' := 3016) (i := 7) (L' := [some (.ref 360), some (.ref 0), some (.ref 352), some (.ref 358), some (.ref 359), some (.int i), some (.int x2.1), some (.int x5.1), none]) dL_law_3014 rfl (Nat.le_of_ble_eq_true rfl) (Nat.le_of_ble_eq_true rfl) rfl ?_
  refine me_aload_n (pc' := 3017) (i := 2) dL_law_3016 rfl rfl rfl ?_
  refine me_callV (As := []) (st := []) (F' := mm_SQ) (G' := mm_SQ) (F'' := mm_SQ) (pc' := 3020) dL_law_3017 rfl mfX11_thrown rfl lkL_186 kd_352 rfl (mm_ltQ kd_352) ⟨Nat.le_of_ble_eq_true rfl, Nat.le_of_ble_eq_true rfl⟩ (Nat.le_of_ble_eq_true rfl) (fun z => z) (mm_RQ (fun t => rX11_thrown (q := (360, t)) x5.2 (Nat.le_of_ble_eq_true rfl))) (fun x7 e8 => Or.inl ⟨_, _, rfl, fun z => z, ?_⟩)
  show mm_E2 _ _ _ _ _ [.int x7] x5.2 _ _
  refine me_iload (pc' := 3022) (i := 6) dL_law_3020 rfl rfl ?_
  refine me_icmp_eq (pc' := 3025) (tgt := 3027) dL_law_3022 (by decide) rfl (fun c9 => ?_) (fun c9 => ?_)
  · refine me_iload (pc' := 3029) (i := 6) dL_law_3027 rfl rfl ?_
    refine mm_jnI (fun (j109 : Unit → Option (Bool × mm_H)) => ∀ (_ : Unit), mm_E2 mm_SQ mm_SQ mL_law 3044 [some (.ref 360), some (.ref 0), some (.ref 352), some (.ref 358), some (.ref 359), some (.int i), none, none, none] [] x5.2 (j109 ()) lf_ze) ?_ (fun j10 j10p => ?_)
    · intro _
      refine me_goto (tgt := 3496) dL_law_3044 (by decide) ?_
      exact jp x5.2
    refine me_if_ne (pc' := 3032) (tgt := 3044) dL_law_3029 (by decide) rfl (fun c11 => ?_) (fun c11 => ?_)
    · exact mm_maskB [true, true, true, true, true, true, false, false, false] (j10p ())
    · refine me_aload_n (pc' := 3033) (i := 3) dL_law_3032 rfl rfl rfl ?_
      refine me_iconst (pc' := 3034) (v := 0) dL_law_3033 rfl kc_i0 ?_
      refine mm_guard (fun c12 => ?_)
      refine me_lald (pc' := 3035) dL_law_3034 rfl kd_358 (mm_ltQ kd_358) (mm_ibd_of c12) ?_
      refine me_iload (pc' := 3037) (i := 7) dL_law_3035 rfl rfl ?_
      refine me_i2l (pc' := 3038) dL_law_3037 rfl ?_
      refine me_lcmp (pc' := 3039) dL_law_3038 rfl ?_
      refine me_if_eq (pc' := 3042) (tgt := 3044) dL_law_3039 (by decide) rfl (fun c13 => ?_) (fun c13 => ?_)
      · exact mm_maskB [true, true, true, true, true, true, false, false, false] (j10p ())
      · refine me_iconst (pc' := 3043) (v := 0) dL_law_3042 rfl kc_i0 ?_
        exact me_zret (b := false) dL_law_3043 rfl (fun z => z) rfl
  · refine me_iconst (pc' := 3026) (v := 0) dL_law_3025 rfl kc_i0 ?_
    exact me_zret (b := false) dL_law_3026 rfl (fun z => z) rfl
def gL_c3047 (i : Int32) (j : mm_H → Option (Bool × mm_H)) (h : mm_H) : Option (Bool × mm_H) :=
if mm_isb ((i + 1)) (mh_I h 360 0) = true then
if mm_isb ((i + 2)) (mh_I h 360 0) = true then
(gL_takeStock ((mh_I h 360 (Int32.toNatClampNeg ((i + 1)) + 1))) ((mh_I h 360 (Int32.toNatClampNeg ((i + 2)) + 1))) h).bind (fun (x3 : (Int32 × mm_H)) =>
if mm_isb ((i + 1)) (mh_I x3.2 360 0) = true then
if mm_isb ((i + 2)) (mh_I x3.2 360 0) = true then
(gX11_takeStock ((mh_I x3.2 360 (Int32.toNatClampNeg ((i + 1)) + 1))) ((mh_I x3.2 360 (Int32.toNatClampNeg ((i + 2)) + 1))) x3.2).bind (fun (x7 : (Int32 × mm_H)) =>
(gX11_thrown x7.2).bind (fun (x9 : Int32) =>
if x9 = x3.1 then
mm_jn (fun (_ : Unit) =>
j x7.2) (fun (j12 : Unit → Option (Bool × mm_H)) =>
if x3.1 = 0 then
if mm_ibd 0 1 = true then
if (lg_cmp ((mh_J x7.2 358 (Int32.toNatClampNeg (0)))) ((x7.1).toInt64)) = 0 then
j12 ()
else
some (false, x7.2) else none
else
j12 ())
else
some (false, x7.2))) else none else none) else none else none
theorem rL_c3047 (i : Int32) (j : mm_H → Option (Bool × mm_H)) (jp : ∀ h, mm_E2 mm_SQ mm_SQ mL_law 3496 [some (.ref 360), some (.ref 0), some (.ref 352), some (.ref 358), some (.ref 359), some (.int i), none, none, none] [] h (j h) lf_ze) (h : mm_H) : mm_E2 mm_SQ mm_SQ mL_law 3047 [some (.ref 360), some (.ref 0), some (.ref 352), some (.ref 358), some (.ref 359), some (.int i), none, none, none] [] h (gL_c3047 i j h) lf_ze := by
  unfold gL_c3047
  refine me_aload_n (pc' := 3048) (i := 1) dL_law_3047 rfl rfl rfl ?_
  refine me_aload_n (pc' := 3049) (i := 0) dL_law_3048 rfl rfl rfl ?_
  refine me_iload (pc' := 3051) (i := 5) dL_law_3049 rfl rfl ?_
  refine me_iconst (pc' := 3052) (v := 1) dL_law_3051 rfl kc_i1 ?_
  refine me_iadd (pc' := 3053) dL_law_3052 rfl ?_
  refine mm_guard (fun c1 => ?_)
  refine me_scld (pc' := 3054) dL_law_3053 rfl c1 ?_
  refine me_aload_n (pc' := 3055) (i := 0) dL_law_3054 rfl rfl rfl ?_
  refine me_iload (pc' := 3057) (i := 5) dL_law_3055 rfl rfl ?_
  refine me_iconst (pc' := 3058) (v := 2) dL_law_3057 rfl kc_i2 ?_
  refine me_iadd (pc' := 3059) dL_law_3058 rfl ?_
  refine mm_guard (fun c2 => ?_)
  refine me_scld (pc' := 3060) dL_law_3059 rfl c2 ?_
  refine me_aload_n (pc' := 3061) (i := 3) dL_law_3060 rfl rfl rfl ?_
  refine me_callSX (As := [.ref 0, .int (mh_I h 360 (Int32.toNatClampNeg ((i + 1)) + 1)), .int (mh_I h 360 (Int32.toNatClampNeg ((i + 2)) + 1)), .ref 358]) (st := []) (F' := mm_SQ) (G' := mm_SQ) (F'' := mm_SQ) (pc' := 3064) dL_law_3061 rfl mfL_takeStock rfl lx_358 ⟨Nat.le_of_ble_eq_true rfl, Nat.le_of_ble_eq_true rfl⟩ (Nat.le_of_ble_eq_true rfl) (fun z => z) (mm_RQ (fun t => rL_takeStock (q := (360, t)) ((mh_I h 360 (Int32.toNatClampNeg ((i + 1)) + 1))) ((mh_I h 360 (Int32.toNatClampNeg ((i + 2)) + 1))) h (Nat.le_of_ble_eq_true rfl))) (fun x3 e4 => Or.inl ⟨_, _, rfl, fun z => z, ?_⟩)
  show mm_E2 _ _ _ _ _ [.int x3.1] x3.2 _ _
  refine me_istore (pc' := 3066) (i := 6) (L' := [some (.ref 360), some (.ref 0), some (.ref 352), some (.ref 358), some (.ref 359), some (.int i), some (.int x3.1), none, none]) dL_law_3064 rfl (Nat.le_of_ble_eq_true rfl) (Nat.le_of_ble_eq_true rfl) rfl ?_
  refine me_aload_n (pc' := 3067) (i := 2) dL_law_3066 rfl rfl rfl ?_
  refine me_aload_n (pc' := 3068) (i := 0) dL_law_3067 rfl rfl rfl ?_
  refine me_iload (pc' := 3070) (i := 5) dL_law_3068 rfl rfl ?_
  refine me_iconst (pc' := 3071) (v := 1) dL_law_3070 rfl kc_i1 ?_
  refine me_iadd (pc' := 3072) dL_law_3071 rfl ?_
  refine mm_guard (fun c5 => ?_)
  refine me_scld (pc' := 3073) dL_law_3072 rfl c5 ?_
  refine me_aload_n (pc' := 3074) (i := 0) dL_law_3073 rfl rfl rfl ?_
  refine me_iload (pc' := 3076) (i := 5) dL_law_3074 rfl rfl ?_
  refine me_iconst (pc' := 3077) (v := 2) dL_law_3076 rfl kc_i2 ?_
  refine me_iadd (pc' := 3078) dL_law_3077 rfl ?_
  refine mm_guard (fun c6 => ?_)
  refine me_scld (pc' := 3079) dL_law_3078 rfl c6 ?_
  refine me_callV (As := [.int (mh_I x3.2 360 (Int32.toNatClampNeg ((i + 1)) + 1)), .int (mh_I x3.2 360 (Int32.toNatClampNeg ((i + 2)) + 1))]) (st := []) (F' := mm_SQ) (G' := mm_SQ) (F'' := mm_SQ) (pc' := 3082) dL_law_3079 rfl mfX11_takeStock rfl lkL_360 kd_352 rfl (mm_ltQ kd_352) ⟨Nat.le_of_ble_eq_true rfl, Nat.le_of_ble_eq_true rfl⟩ (Nat.le_of_ble_eq_true rfl) (fun z => z) (mm_RQ (fun t => rX11_takeStock (q := (360, t)) ((mh_I x3.2 360 (Int32.toNatClampNeg ((i + 1)) + 1))) ((mh_I x3.2 360 (Int32.toNatClampNeg ((i + 2)) + 1))) x3.2 (Nat.le_of_ble_eq_true rfl))) (fun x7 e8 => Or.inl ⟨_, _, rfl, fun z => z, ?_⟩)
  show mm_E2 _ _ _ _ _ [.int x7.1] x7.2 _ _
  refine me_istore (pc' := 3084) (i := 7) (L' := [some (.ref 360), some (.ref 0), some (.ref 352), some (.ref 358), some (.ref 359), some (.int i), some (.int x3.1), some (.int x7.1), none]) dL_law_3082 rfl (Nat.le_of_ble_eq_true rfl) (Nat.le_of_ble_eq_true rfl) rfl ?_
  refine me_aload_n (pc' := 3085) (i := 2) dL_law_3084 rfl rfl rfl ?_
  refine me_callV (As := []) (st := []) (F' := mm_SQ) (G' := mm_SQ) (F'' := mm_SQ) (pc' := 3088) dL_law_3085 rfl mfX11_thrown rfl lkL_186 kd_352 rfl (mm_ltQ kd_352) ⟨Nat.le_of_ble_eq_true rfl, Nat.le_of_ble_eq_true rfl⟩ (Nat.le_of_ble_eq_true rfl) (fun z => z) (mm_RQ (fun t => rX11_thrown (q := (360, t)) x7.2 (Nat.le_of_ble_eq_true rfl))) (fun x9 e10 => Or.inl ⟨_, _, rfl, fun z => z, ?_⟩)
  show mm_E2 _ _ _ _ _ [.int x9] x7.2 _ _
  refine me_iload (pc' := 3090) (i := 6) dL_law_3088 rfl rfl ?_
  refine me_icmp_eq (pc' := 3093) (tgt := 3095) dL_law_3090 (by decide) rfl (fun c11 => ?_) (fun c11 => ?_)
  · refine me_iload (pc' := 3097) (i := 6) dL_law_3095 rfl rfl ?_
    refine mm_jnI (fun (j129 : Unit → Option (Bool × mm_H)) => ∀ (_ : Unit), mm_E2 mm_SQ mm_SQ mL_law 3112 [some (.ref 360), some (.ref 0), some (.ref 352), some (.ref 358), some (.ref 359), some (.int i), none, none, none] [] x7.2 (j129 ()) lf_ze) ?_ (fun j12 j12p => ?_)
    · intro _
      refine me_goto (tgt := 3496) dL_law_3112 (by decide) ?_
      exact jp x7.2
    refine me_if_ne (pc' := 3100) (tgt := 3112) dL_law_3097 (by decide) rfl (fun c13 => ?_) (fun c13 => ?_)
    · exact mm_maskB [true, true, true, true, true, true, false, false, false] (j12p ())
    · refine me_aload_n (pc' := 3101) (i := 3) dL_law_3100 rfl rfl rfl ?_
      refine me_iconst (pc' := 3102) (v := 0) dL_law_3101 rfl kc_i0 ?_
      refine mm_guard (fun c14 => ?_)
      refine me_lald (pc' := 3103) dL_law_3102 rfl kd_358 (mm_ltQ kd_358) (mm_ibd_of c14) ?_
      refine me_iload (pc' := 3105) (i := 7) dL_law_3103 rfl rfl ?_
      refine me_i2l (pc' := 3106) dL_law_3105 rfl ?_
      refine me_lcmp (pc' := 3107) dL_law_3106 rfl ?_
      refine me_if_eq (pc' := 3110) (tgt := 3112) dL_law_3107 (by decide) rfl (fun c15 => ?_) (fun c15 => ?_)
      · exact mm_maskB [true, true, true, true, true, true, false, false, false] (j12p ())
      · refine me_iconst (pc' := 3111) (v := 0) dL_law_3110 rfl kc_i0 ?_
        exact me_zret (b := false) dL_law_3111 rfl (fun z => z) rfl
  · refine me_iconst (pc' := 3094) (v := 0) dL_law_3093 rfl kc_i0 ?_
    exact me_zret (b := false) dL_law_3094 rfl (fun z => z) rfl
def gL_c3115 (i : Int32) (j : mm_H → Option (Bool × mm_H)) (h : mm_H) : Option (Bool × mm_H) :=
(gX10_writeOffExpired h).bind (fun (x1 : (Int32 × mm_H)) =>
(gX11_writeOffExpired x1.2).bind (fun (x3 : (Int32 × mm_H)) =>
if x1.1 = x3.1 then
j x3.2
else
some (false, x3.2)))
theorem rL_c3115 (i : Int32) (j : mm_H → Option (Bool × mm_H)) (jp : ∀ h, mm_E2 mm_SQ mm_SQ mL_law 3496 [some (.ref 360), some (.ref 0), some (.ref 352), some (.ref 358), some (.ref 359), some (.int i), none, none, none] [] h (j h) lf_ze) (h : mm_H) : mm_E2 mm_SQ mm_SQ mL_law 3115 [some (.ref 360), some (.ref 0), some (.ref 352), some (.ref 358), some (.ref 359), some (.int i), none, none, none] [] h (gL_c3115 i j h) lf_ze := by
  unfold gL_c3115
  refine me_aload_n (pc' := 3116) (i := 1) dL_law_3115 rfl rfl rfl ?_
  refine me_callV (As := []) (st := []) (F' := mm_SQ) (G' := mm_SQ) (F'' := mm_SQ) (pc' := 3119) dL_law_3116 rfl mfX10_writeOffExpired rfl lkL_361 kd_0 rfl (mm_ltQ kd_0) ⟨Nat.le_of_ble_eq_true rfl, Nat.le_of_ble_eq_true rfl⟩ (Nat.le_of_ble_eq_true rfl) (fun z => z) (mm_RQ (fun t => rX10_writeOffExpired (q := (360, t)) h )) (fun x1 e2 => Or.inl ⟨_, _, rfl, fun z => z, ?_⟩)
  show mm_E2 _ _ _ _ _ [.int x1.1] x1.2 _ _
  refine me_aload_n (pc' := 3120) (i := 2) dL_law_3119 rfl rfl rfl ?_
  refine me_callV (As := []) (st := [.int x1.1]) (F' := mm_SQ) (G' := mm_SQ) (F'' := mm_SQ) (pc' := 3123) dL_law_3120 rfl mfX11_writeOffExpired rfl lkL_364 kd_352 rfl (mm_ltQ kd_352) ⟨Nat.le_of_ble_eq_true rfl, Nat.le_of_ble_eq_true rfl⟩ (Nat.le_of_ble_eq_true rfl) (fun z => z) (mm_RQ (fun t => rX11_writeOffExpired (q := (360, t)) x1.2 (Nat.le_of_ble_eq_true rfl))) (fun x3 e4 => Or.inl ⟨_, _, rfl, fun z => z, ?_⟩)
  show mm_E2 _ _ _ _ _ [.int x3.1, .int x1.1] x3.2 _ _
  refine me_icmp_eq (pc' := 3126) (tgt := 3496) dL_law_3123 (by decide) rfl (fun c5 => ?_) (fun c5 => ?_)
  · exact jp x3.2
  · refine me_iconst (pc' := 3127) (v := 0) dL_law_3126 rfl kc_i0 ?_
    exact me_zret (b := false) dL_law_3127 rfl (fun z => z) rfl
def gL_c3128 (i : Int32) (j : mm_H → Option (Bool × mm_H)) (h : mm_H) : Option (Bool × mm_H) :=
if mm_isb ((i + 1)) (mh_I h 360 0) = true then
(gL_passDays ((mh_I h 360 (Int32.toNatClampNeg ((i + 1)) + 1))) h).bind (fun (x2 : (Int32 × mm_H)) =>
if mm_isb ((i + 1)) (mh_I x2.2 360 0) = true then
(gX11_passDays ((mh_I x2.2 360 (Int32.toNatClampNeg ((i + 1)) + 1))) x2.2).bind (fun (x5 : (Int32 × mm_H)) =>
(gX11_thrown x5.2).bind (fun (x7 : Int32) =>
if x7 = x2.1 then
mm_jn (fun (_ : Unit) =>
j x5.2) (fun (j10 : Unit → Option (Bool × mm_H)) =>
if x2.1 = 0 then
if mm_ibd 0 1 = true then
if (lg_cmp ((mh_J x5.2 358 (Int32.toNatClampNeg (0)))) ((x5.1).toInt64)) = 0 then
j10 ()
else
some (false, x5.2) else none
else
j10 ())
else
some (false, x5.2))) else none) else none
theorem rL_c3128 (i : Int32) (j : mm_H → Option (Bool × mm_H)) (jp : ∀ h, mm_E2 mm_SQ mm_SQ mL_law 3496 [some (.ref 360), some (.ref 0), some (.ref 352), some (.ref 358), some (.ref 359), some (.int i), none, none, none] [] h (j h) lf_ze) (h : mm_H) : mm_E2 mm_SQ mm_SQ mL_law 3128 [some (.ref 360), some (.ref 0), some (.ref 352), some (.ref 358), some (.ref 359), some (.int i), none, none, none] [] h (gL_c3128 i j h) lf_ze := by
  unfold gL_c3128
  refine me_aload_n (pc' := 3129) (i := 1) dL_law_3128 rfl rfl rfl ?_
  refine me_aload_n (pc' := 3130) (i := 0) dL_law_3129 rfl rfl rfl ?_
  refine me_iload (pc' := 3132) (i := 5) dL_law_3130 rfl rfl ?_
  refine me_iconst (pc' := 3133) (v := 1) dL_law_3132 rfl kc_i1 ?_
  refine me_iadd (pc' := 3134) dL_law_3133 rfl ?_
  refine mm_guard (fun c1 => ?_)
  refine me_scld (pc' := 3135) dL_law_3134 rfl c1 ?_
  refine me_aload_n (pc' := 3136) (i := 3) dL_law_3135 rfl rfl rfl ?_
  refine me_callSX (As := [.ref 0, .int (mh_I h 360 (Int32.toNatClampNeg ((i + 1)) + 1)), .ref 358]) (st := []) (F' := mm_SQ) (G' := mm_SQ) (F'' := mm_SQ) (pc' := 3139) dL_law_3136 rfl mfL_passDays rfl lx_365 ⟨Nat.le_of_ble_eq_true rfl, Nat.le_of_ble_eq_true rfl⟩ (Nat.le_of_ble_eq_true rfl) (fun z => z) (mm_RQ (fun t => rL_passDays (q := (360, t)) ((mh_I h 360 (Int32.toNatClampNeg ((i + 1)) + 1))) h (Nat.le_of_ble_eq_true rfl))) (fun x2 e3 => Or.inl ⟨_, _, rfl, fun z => z, ?_⟩)
  show mm_E2 _ _ _ _ _ [.int x2.1] x2.2 _ _
  refine me_istore (pc' := 3141) (i := 6) (L' := [some (.ref 360), some (.ref 0), some (.ref 352), some (.ref 358), some (.ref 359), some (.int i), some (.int x2.1), none, none]) dL_law_3139 rfl (Nat.le_of_ble_eq_true rfl) (Nat.le_of_ble_eq_true rfl) rfl ?_
  refine me_aload_n (pc' := 3142) (i := 2) dL_law_3141 rfl rfl rfl ?_
  refine me_aload_n (pc' := 3143) (i := 0) dL_law_3142 rfl rfl rfl ?_
  refine me_iload (pc' := 3145) (i := 5) dL_law_3143 rfl rfl ?_
  refine me_iconst (pc' := 3146) (v := 1) dL_law_3145 rfl kc_i1 ?_
  refine me_iadd (pc' := 3147) dL_law_3146 rfl ?_
  refine mm_guard (fun c4 => ?_)
  refine me_scld (pc' := 3148) dL_law_3147 rfl c4 ?_
  refine me_callV (As := [.int (mh_I x2.2 360 (Int32.toNatClampNeg ((i + 1)) + 1))]) (st := []) (F' := mm_SQ) (G' := mm_SQ) (F'' := mm_SQ) (pc' := 3151) dL_law_3148 rfl mfX11_passDays rfl lkL_367 kd_352 rfl (mm_ltQ kd_352) ⟨Nat.le_of_ble_eq_true rfl, Nat.le_of_ble_eq_true rfl⟩ (Nat.le_of_ble_eq_true rfl) (fun z => z) (mm_RQ (fun t => rX11_passDays (q := (360, t)) ((mh_I x2.2 360 (Int32.toNatClampNeg ((i + 1)) + 1))) x2.2 (Nat.le_of_ble_eq_true rfl))) (fun x5 e6 => Or.inl ⟨_, _, rfl, fun z => z, ?_⟩)
  show mm_E2 _ _ _ _ _ [.int x5.1] x5.2 _ _
  refine me_istore (pc' := 3153) (i := 7) (L' := [some (.ref 360), some (.ref 0), some (.ref 352), some (.ref 358), some (.ref 359), some (.int i), some (.int x2.1), some (.int x5.1), none]) dL_law_3151 rfl (Nat.le_of_ble_eq_true rfl) (Nat.le_of_ble_eq_true rfl) rfl ?_
  refine me_aload_n (pc' := 3154) (i := 2) dL_law_3153 rfl rfl rfl ?_
  refine me_callV (As := []) (st := []) (F' := mm_SQ) (G' := mm_SQ) (F'' := mm_SQ) (pc' := 3157) dL_law_3154 rfl mfX11_thrown rfl lkL_186 kd_352 rfl (mm_ltQ kd_352) ⟨Nat.le_of_ble_eq_true rfl, Nat.le_of_ble_eq_true rfl⟩ (Nat.le_of_ble_eq_true rfl) (fun z => z) (mm_RQ (fun t => rX11_thrown (q := (360, t)) x5.2 (Nat.le_of_ble_eq_true rfl))) (fun x7 e8 => Or.inl ⟨_, _, rfl, fun z => z, ?_⟩)
  show mm_E2 _ _ _ _ _ [.int x7] x5.2 _ _
  refine me_iload (pc' := 3159) (i := 6) dL_law_3157 rfl rfl ?_
  refine me_icmp_eq (pc' := 3162) (tgt := 3164) dL_law_3159 (by decide) rfl (fun c9 => ?_) (fun c9 => ?_)
  · refine me_iload (pc' := 3166) (i := 6) dL_law_3164 rfl rfl ?_
    refine mm_jnI (fun (j109 : Unit → Option (Bool × mm_H)) => ∀ (_ : Unit), mm_E2 mm_SQ mm_SQ mL_law 3181 [some (.ref 360), some (.ref 0), some (.ref 352), some (.ref 358), some (.ref 359), some (.int i), none, none, none] [] x5.2 (j109 ()) lf_ze) ?_ (fun j10 j10p => ?_)
    · intro _
      refine me_goto (tgt := 3496) dL_law_3181 (by decide) ?_
      exact jp x5.2
    refine me_if_ne (pc' := 3169) (tgt := 3181) dL_law_3166 (by decide) rfl (fun c11 => ?_) (fun c11 => ?_)
    · exact mm_maskB [true, true, true, true, true, true, false, false, false] (j10p ())
    · refine me_aload_n (pc' := 3170) (i := 3) dL_law_3169 rfl rfl rfl ?_
      refine me_iconst (pc' := 3171) (v := 0) dL_law_3170 rfl kc_i0 ?_
      refine mm_guard (fun c12 => ?_)
      refine me_lald (pc' := 3172) dL_law_3171 rfl kd_358 (mm_ltQ kd_358) (mm_ibd_of c12) ?_
      refine me_iload (pc' := 3174) (i := 7) dL_law_3172 rfl rfl ?_
      refine me_i2l (pc' := 3175) dL_law_3174 rfl ?_
      refine me_lcmp (pc' := 3176) dL_law_3175 rfl ?_
      refine me_if_eq (pc' := 3179) (tgt := 3181) dL_law_3176 (by decide) rfl (fun c13 => ?_) (fun c13 => ?_)
      · exact mm_maskB [true, true, true, true, true, true, false, false, false] (j10p ())
      · refine me_iconst (pc' := 3180) (v := 0) dL_law_3179 rfl kc_i0 ?_
        exact me_zret (b := false) dL_law_3180 rfl (fun z => z) rfl
  · refine me_iconst (pc' := 3163) (v := 0) dL_law_3162 rfl kc_i0 ?_
    exact me_zret (b := false) dL_law_3163 rfl (fun z => z) rfl
def gL_c3184 (i : Int32) (j : mm_H → Option (Bool × mm_H)) (h : mm_H) : Option (Bool × mm_H) :=
(gL_runScript h).bind (fun (x1 : (Int32 × mm_H)) =>
(gX11_runScript x1.2).bind (fun (x3 : (Int32 × mm_H)) =>
(gX11_thrown x3.2).bind (fun (x5 : Int32) =>
if x5 = x1.1 then
mm_jn (fun (_ : Unit) =>
j x3.2) (fun (j8 : Unit → Option (Bool × mm_H)) =>
if x1.1 = 0 then
if mm_ibd 0 1 = true then
if (lg_cmp ((mh_J x3.2 358 (Int32.toNatClampNeg (0)))) ((x3.1).toInt64)) = 0 then
j8 ()
else
some (false, x3.2) else none
else
j8 ())
else
some (false, x3.2))))
theorem rL_c3184 (i : Int32) (j : mm_H → Option (Bool × mm_H)) (jp : ∀ h, mm_E2 mm_SQ mm_SQ mL_law 3496 [some (.ref 360), some (.ref 0), some (.ref 352), some (.ref 358), some (.ref 359), some (.int i), none, none, none] [] h (j h) lf_ze) (h : mm_H) : mm_E2 mm_SQ mm_SQ mL_law 3184 [some (.ref 360), some (.ref 0), some (.ref 352), some (.ref 358), some (.ref 359), some (.int i), none, none, none] [] h (gL_c3184 i j h) lf_ze := by
  unfold gL_c3184
  refine me_aload_n (pc' := 3185) (i := 1) dL_law_3184 rfl rfl rfl ?_
  refine me_aload_n (pc' := 3186) (i := 3) dL_law_3185 rfl rfl rfl ?_
  refine me_callSX (As := [.ref 0, .ref 358]) (st := []) (F' := mm_SQ) (G' := mm_SQ) (F'' := mm_SQ) (pc' := 3189) dL_law_3186 rfl mfL_runScript rfl lx_368 ⟨Nat.le_of_ble_eq_true rfl, Nat.le_of_ble_eq_true rfl⟩ (Nat.le_of_ble_eq_true rfl) (fun z => z) (mm_RQ1 (fun t => rL_runScript (q := (360, t)) h (Nat.le_of_ble_eq_true rfl))) (fun x1 e2 => Or.inl ⟨_, _, rfl, fun z => z, ?_⟩)
  show mm_E2 _ _ _ _ _ [.int x1.1] x1.2 _ _
  refine me_istore (pc' := 3191) (i := 6) (L' := [some (.ref 360), some (.ref 0), some (.ref 352), some (.ref 358), some (.ref 359), some (.int i), some (.int x1.1), none, none]) dL_law_3189 rfl (Nat.le_of_ble_eq_true rfl) (Nat.le_of_ble_eq_true rfl) rfl ?_
  refine me_aload_n (pc' := 3192) (i := 2) dL_law_3191 rfl rfl rfl ?_
  refine me_callV (As := []) (st := []) (F' := mm_SQ) (G' := mm_SQ) (F'' := mm_SQ) (pc' := 3195) dL_law_3192 rfl mfX11_runScript rfl lkL_370 kd_352 rfl (mm_ltQ kd_352) ⟨Nat.le_of_ble_eq_true rfl, Nat.le_of_ble_eq_true rfl⟩ (Nat.le_of_ble_eq_true rfl) (fun z => z) (mm_RQ (fun t => rX11_runScript (q := (360, t)) x1.2 (Nat.le_of_ble_eq_true rfl))) (fun x3 e4 => Or.inl ⟨_, _, rfl, fun z => z, ?_⟩)
  show mm_E2 _ _ _ _ _ [.int x3.1] x3.2 _ _
  refine me_istore (pc' := 3197) (i := 7) (L' := [some (.ref 360), some (.ref 0), some (.ref 352), some (.ref 358), some (.ref 359), some (.int i), some (.int x1.1), some (.int x3.1), none]) dL_law_3195 rfl (Nat.le_of_ble_eq_true rfl) (Nat.le_of_ble_eq_true rfl) rfl ?_
  refine me_aload_n (pc' := 3198) (i := 2) dL_law_3197 rfl rfl rfl ?_
  refine me_callV (As := []) (st := []) (F' := mm_SQ) (G' := mm_SQ) (F'' := mm_SQ) (pc' := 3201) dL_law_3198 rfl mfX11_thrown rfl lkL_186 kd_352 rfl (mm_ltQ kd_352) ⟨Nat.le_of_ble_eq_true rfl, Nat.le_of_ble_eq_true rfl⟩ (Nat.le_of_ble_eq_true rfl) (fun z => z) (mm_RQ (fun t => rX11_thrown (q := (360, t)) x3.2 (Nat.le_of_ble_eq_true rfl))) (fun x5 e6 => Or.inl ⟨_, _, rfl, fun z => z, ?_⟩)
  show mm_E2 _ _ _ _ _ [.int x5] x3.2 _ _
  refine me_iload (pc' := 3203) (i := 6) dL_law_3201 rfl rfl ?_
  refine me_icmp_eq (pc' := 3206) (tgt := 3208) dL_law_3203 (by decide) rfl (fun c7 => ?_) (fun c7 => ?_)
  · refine me_iload (pc' := 3210) (i := 6) dL_law_3208 rfl rfl ?_
    refine mm_jnI (fun (j89 : Unit → Option (Bool × mm_H)) => ∀ (_ : Unit), mm_E2 mm_SQ mm_SQ mL_law 3225 [some (.ref 360), some (.ref 0), some (.ref 352), some (.ref 358), some (.ref 359), some (.int i), none, none, none] [] x3.2 (j89 ()) lf_ze) ?_ (fun j8 j8p => ?_)
    · intro _
      refine me_goto (tgt := 3496) dL_law_3225 (by decide) ?_
      exact jp x3.2
    refine me_if_ne (pc' := 3213) (tgt := 3225) dL_law_3210 (by decide) rfl (fun c9 => ?_) (fun c9 => ?_)
    · exact mm_maskB [true, true, true, true, true, true, false, false, false] (j8p ())
    · refine me_aload_n (pc' := 3214) (i := 3) dL_law_3213 rfl rfl rfl ?_
      refine me_iconst (pc' := 3215) (v := 0) dL_law_3214 rfl kc_i0 ?_
      refine mm_guard (fun c10 => ?_)
      refine me_lald (pc' := 3216) dL_law_3215 rfl kd_358 (mm_ltQ kd_358) (mm_ibd_of c10) ?_
      refine me_iload (pc' := 3218) (i := 7) dL_law_3216 rfl rfl ?_
      refine me_i2l (pc' := 3219) dL_law_3218 rfl ?_
      refine me_lcmp (pc' := 3220) dL_law_3219 rfl ?_
      refine me_if_eq (pc' := 3223) (tgt := 3225) dL_law_3220 (by decide) rfl (fun c11 => ?_) (fun c11 => ?_)
      · exact mm_maskB [true, true, true, true, true, true, false, false, false] (j8p ())
      · refine me_iconst (pc' := 3224) (v := 0) dL_law_3223 rfl kc_i0 ?_
        exact me_zret (b := false) dL_law_3224 rfl (fun z => z) rfl
  · refine me_iconst (pc' := 3207) (v := 0) dL_law_3206 rfl kc_i0 ?_
    exact me_zret (b := false) dL_law_3207 rfl (fun z => z) rfl
def gL_c3228 (i : Int32) (j : mm_H → Option (Bool × mm_H)) (h : mm_H) : Option (Bool × mm_H) :=
(gL_undo h).bind (fun (x1 : (Int32 × mm_H)) =>
(gX11_undo x1.2).bind (fun (x3 : (Int32 × mm_H)) =>
(gX11_thrown x3.2).bind (fun (x5 : Int32) =>
if x5 = x1.1 then
mm_jn (fun (_ : Unit) =>
j x3.2) (fun (j8 : Unit → Option (Bool × mm_H)) =>
if x1.1 = 0 then
if mm_ibd 0 1 = true then
if (lg_cmp ((mh_J x3.2 358 (Int32.toNatClampNeg (0)))) ((x3.1).toInt64)) = 0 then
j8 ()
else
some (false, x3.2) else none
else
j8 ())
else
some (false, x3.2))))
theorem rL_c3228 (i : Int32) (j : mm_H → Option (Bool × mm_H)) (jp : ∀ h, mm_E2 mm_SQ mm_SQ mL_law 3496 [some (.ref 360), some (.ref 0), some (.ref 352), some (.ref 358), some (.ref 359), some (.int i), none, none, none] [] h (j h) lf_ze) (h : mm_H) : mm_E2 mm_SQ mm_SQ mL_law 3228 [some (.ref 360), some (.ref 0), some (.ref 352), some (.ref 358), some (.ref 359), some (.int i), none, none, none] [] h (gL_c3228 i j h) lf_ze := by
  unfold gL_c3228
  refine me_aload_n (pc' := 3229) (i := 1) dL_law_3228 rfl rfl rfl ?_
  refine me_aload_n (pc' := 3230) (i := 3) dL_law_3229 rfl rfl rfl ?_
  refine me_callSX (As := [.ref 0, .ref 358]) (st := []) (F' := mm_SQ) (G' := mm_SQ) (F'' := mm_SQ) (pc' := 3233) dL_law_3230 rfl mfL_undo rfl lx_371 ⟨Nat.le_of_ble_eq_true rfl, Nat.le_of_ble_eq_true rfl⟩ (Nat.le_of_ble_eq_true rfl) (fun z => z) (mm_RQ (fun t => rL_undo (q := (360, t)) h (Nat.le_of_ble_eq_true rfl))) (fun x1 e2 => Or.inl ⟨_, _, rfl, fun z => z, ?_⟩)
  show mm_E2 _ _ _ _ _ [.int x1.1] x1.2 _ _
  refine me_istore (pc' := 3235) (i := 6) (L' := [some (.ref 360), some (.ref 0), some (.ref 352), some (.ref 358), some (.ref 359), some (.int i), some (.int x1.1), none, none]) dL_law_3233 rfl (Nat.le_of_ble_eq_true rfl) (Nat.le_of_ble_eq_true rfl) rfl ?_
  refine me_aload_n (pc' := 3236) (i := 2) dL_law_3235 rfl rfl rfl ?_
  refine me_callV (As := []) (st := []) (F' := mm_SQ) (G' := mm_SQ) (F'' := mm_SQ) (pc' := 3239) dL_law_3236 rfl mfX11_undo rfl lkL_373 kd_352 rfl (mm_ltQ kd_352) ⟨Nat.le_of_ble_eq_true rfl, Nat.le_of_ble_eq_true rfl⟩ (Nat.le_of_ble_eq_true rfl) (fun z => z) (mm_RQ (fun t => rX11_undo (q := (360, t)) x1.2 (Nat.le_of_ble_eq_true rfl))) (fun x3 e4 => Or.inl ⟨_, _, rfl, fun z => z, ?_⟩)
  show mm_E2 _ _ _ _ _ [.int x3.1] x3.2 _ _
  refine me_istore (pc' := 3241) (i := 7) (L' := [some (.ref 360), some (.ref 0), some (.ref 352), some (.ref 358), some (.ref 359), some (.int i), some (.int x1.1), some (.int x3.1), none]) dL_law_3239 rfl (Nat.le_of_ble_eq_true rfl) (Nat.le_of_ble_eq_true rfl) rfl ?_
  refine me_aload_n (pc' := 3242) (i := 2) dL_law_3241 rfl rfl rfl ?_
  refine me_callV (As := []) (st := []) (F' := mm_SQ) (G' := mm_SQ) (F'' := mm_SQ) (pc' := 3245) dL_law_3242 rfl mfX11_thrown rfl lkL_186 kd_352 rfl (mm_ltQ kd_352) ⟨Nat.le_of_ble_eq_true rfl, Nat.le_of_ble_eq_true rfl⟩ (Nat.le_of_ble_eq_true rfl) (fun z => z) (mm_RQ (fun t => rX11_thrown (q := (360, t)) x3.2 (Nat.le_of_ble_eq_true rfl))) (fun x5 e6 => Or.inl ⟨_, _, rfl, fun z => z, ?_⟩)
  show mm_E2 _ _ _ _ _ [.int x5] x3.2 _ _
  refine me_iload (pc' := 3247) (i := 6) dL_law_3245 rfl rfl ?_
  refine me_icmp_eq (pc' := 3250) (tgt := 3252) dL_law_3247 (by decide) rfl (fun c7 => ?_) (fun c7 => ?_)
  · refine me_iload (pc' := 3254) (i := 6) dL_law_3252 rfl rfl ?_
    refine mm_jnI (fun (j89 : Unit → Option (Bool × mm_H)) => ∀ (_ : Unit), mm_E2 mm_SQ mm_SQ mL_law 3269 [some (.ref 360), some (.ref 0), some (.ref 352), some (.ref 358), some (.ref 359), some (.int i), none, none, none] [] x3.2 (j89 ()) lf_ze) ?_ (fun j8 j8p => ?_)
    · intro _
      refine me_goto (tgt := 3496) dL_law_3269 (by decide) ?_
      exact jp x3.2
    refine me_if_ne (pc' := 3257) (tgt := 3269) dL_law_3254 (by decide) rfl (fun c9 => ?_) (fun c9 => ?_)
    · exact mm_maskB [true, true, true, true, true, true, false, false, false] (j8p ())
    · refine me_aload_n (pc' := 3258) (i := 3) dL_law_3257 rfl rfl rfl ?_
      refine me_iconst (pc' := 3259) (v := 0) dL_law_3258 rfl kc_i0 ?_
      refine mm_guard (fun c10 => ?_)
      refine me_lald (pc' := 3260) dL_law_3259 rfl kd_358 (mm_ltQ kd_358) (mm_ibd_of c10) ?_
      refine me_iload (pc' := 3262) (i := 7) dL_law_3260 rfl rfl ?_
      refine me_i2l (pc' := 3263) dL_law_3262 rfl ?_
      refine me_lcmp (pc' := 3264) dL_law_3263 rfl ?_
      refine me_if_eq (pc' := 3267) (tgt := 3269) dL_law_3264 (by decide) rfl (fun c11 => ?_) (fun c11 => ?_)
      · exact mm_maskB [true, true, true, true, true, true, false, false, false] (j8p ())
      · refine me_iconst (pc' := 3268) (v := 0) dL_law_3267 rfl kc_i0 ?_
        exact me_zret (b := false) dL_law_3268 rfl (fun z => z) rfl
  · refine me_iconst (pc' := 3251) (v := 0) dL_law_3250 rfl kc_i0 ?_
    exact me_zret (b := false) dL_law_3251 rfl (fun z => z) rfl
def gL_c3272 (i : Int32) (j : mm_H → Option (Bool × mm_H)) (h : mm_H) : Option (Bool × mm_H) :=
if mm_isb ((i + 1)) (mh_I h 360 0) = true then
(gL_save ((mh_I h 360 (Int32.toNatClampNeg ((i + 1)) + 1))) h).bind (fun (x2 : (Int32 × mm_H)) =>
if mm_isb ((i + 1)) (mh_I x2.2 360 0) = true then
(gX11_save ((mh_I x2.2 360 (Int32.toNatClampNeg ((i + 1)) + 1))) x2.2).bind (fun (x5 : (Int32 × mm_H)) =>
(gX11_thrown x5.2).bind (fun (x7 : Int32) =>
if x7 = x2.1 then
mm_jn (fun (_ : Unit) =>
j x5.2) (fun (j10 : Unit → Option (Bool × mm_H)) =>
if x2.1 = 0 then
if mm_ibd 0 1 = true then
if (lg_cmp ((mh_J x5.2 358 (Int32.toNatClampNeg (0)))) ((x5.1).toInt64)) = 0 then
j10 ()
else
some (false, x5.2) else none
else
j10 ())
else
some (false, x5.2))) else none) else none
theorem rL_c3272 (i : Int32) (j : mm_H → Option (Bool × mm_H)) (jp : ∀ h, mm_E2 mm_SQ mm_SQ mL_law 3496 [some (.ref 360), some (.ref 0), some (.ref 352), some (.ref 358), some (.ref 359), some (.int i), none, none, none] [] h (j h) lf_ze) (h : mm_H) : mm_E2 mm_SQ mm_SQ mL_law 3272 [some (.ref 360), some (.ref 0), some (.ref 352), some (.ref 358), some (.ref 359), some (.int i), none, none, none] [] h (gL_c3272 i j h) lf_ze := by
  unfold gL_c3272
  refine me_aload_n (pc' := 3273) (i := 1) dL_law_3272 rfl rfl rfl ?_
  refine me_aload_n (pc' := 3274) (i := 0) dL_law_3273 rfl rfl rfl ?_
  refine me_iload (pc' := 3276) (i := 5) dL_law_3274 rfl rfl ?_
  refine me_iconst (pc' := 3277) (v := 1) dL_law_3276 rfl kc_i1 ?_
  refine me_iadd (pc' := 3278) dL_law_3277 rfl ?_
  refine mm_guard (fun c1 => ?_)
  refine me_scld (pc' := 3279) dL_law_3278 rfl c1 ?_
  refine me_aload_n (pc' := 3280) (i := 3) dL_law_3279 rfl rfl rfl ?_
  refine me_callSX (As := [.ref 0, .int (mh_I h 360 (Int32.toNatClampNeg ((i + 1)) + 1)), .ref 358]) (st := []) (F' := mm_SQ) (G' := mm_SQ) (F'' := mm_SQ) (pc' := 3283) dL_law_3280 rfl mfL_save rfl lx_374 ⟨Nat.le_of_ble_eq_true rfl, Nat.le_of_ble_eq_true rfl⟩ (Nat.le_of_ble_eq_true rfl) (fun z => z) (mm_RQ (fun t => rL_save (q := (360, t)) ((mh_I h 360 (Int32.toNatClampNeg ((i + 1)) + 1))) h (Nat.le_of_ble_eq_true rfl))) (fun x2 e3 => Or.inl ⟨_, _, rfl, fun z => z, ?_⟩)
  show mm_E2 _ _ _ _ _ [.int x2.1] x2.2 _ _
  refine me_istore (pc' := 3285) (i := 6) (L' := [some (.ref 360), some (.ref 0), some (.ref 352), some (.ref 358), some (.ref 359), some (.int i), some (.int x2.1), none, none]) dL_law_3283 rfl (Nat.le_of_ble_eq_true rfl) (Nat.le_of_ble_eq_true rfl) rfl ?_
  refine me_aload_n (pc' := 3286) (i := 2) dL_law_3285 rfl rfl rfl ?_
  refine me_aload_n (pc' := 3287) (i := 0) dL_law_3286 rfl rfl rfl ?_
  refine me_iload (pc' := 3289) (i := 5) dL_law_3287 rfl rfl ?_
  refine me_iconst (pc' := 3290) (v := 1) dL_law_3289 rfl kc_i1 ?_
  refine me_iadd (pc' := 3291) dL_law_3290 rfl ?_
  refine mm_guard (fun c4 => ?_)
  refine me_scld (pc' := 3292) dL_law_3291 rfl c4 ?_
  refine me_callV (As := [.int (mh_I x2.2 360 (Int32.toNatClampNeg ((i + 1)) + 1))]) (st := []) (F' := mm_SQ) (G' := mm_SQ) (F'' := mm_SQ) (pc' := 3295) dL_law_3292 rfl mfX11_save rfl lkL_376 kd_352 rfl (mm_ltQ kd_352) ⟨Nat.le_of_ble_eq_true rfl, Nat.le_of_ble_eq_true rfl⟩ (Nat.le_of_ble_eq_true rfl) (fun z => z) (mm_RQ (fun t => rX11_save (q := (360, t)) ((mh_I x2.2 360 (Int32.toNatClampNeg ((i + 1)) + 1))) x2.2 (Nat.le_of_ble_eq_true rfl))) (fun x5 e6 => Or.inl ⟨_, _, rfl, fun z => z, ?_⟩)
  show mm_E2 _ _ _ _ _ [.int x5.1] x5.2 _ _
  refine me_istore (pc' := 3297) (i := 7) (L' := [some (.ref 360), some (.ref 0), some (.ref 352), some (.ref 358), some (.ref 359), some (.int i), some (.int x2.1), some (.int x5.1), none]) dL_law_3295 rfl (Nat.le_of_ble_eq_true rfl) (Nat.le_of_ble_eq_true rfl) rfl ?_
  refine me_aload_n (pc' := 3298) (i := 2) dL_law_3297 rfl rfl rfl ?_
  refine me_callV (As := []) (st := []) (F' := mm_SQ) (G' := mm_SQ) (F'' := mm_SQ) (pc' := 3301) dL_law_3298 rfl mfX11_thrown rfl lkL_186 kd_352 rfl (mm_ltQ kd_352) ⟨Nat.le_of_ble_eq_true rfl, Nat.le_of_ble_eq_true rfl⟩ (Nat.le_of_ble_eq_true rfl) (fun z => z) (mm_RQ (fun t => rX11_thrown (q := (360, t)) x5.2 (Nat.le_of_ble_eq_true rfl))) (fun x7 e8 => Or.inl ⟨_, _, rfl, fun z => z, ?_⟩)
  show mm_E2 _ _ _ _ _ [.int x7] x5.2 _ _
  refine me_iload (pc' := 3303) (i := 6) dL_law_3301 rfl rfl ?_
  refine me_icmp_eq (pc' := 3306) (tgt := 3308) dL_law_3303 (by decide) rfl (fun c9 => ?_) (fun c9 => ?_)
  · refine me_iload (pc' := 3310) (i := 6) dL_law_3308 rfl rfl ?_
    refine mm_jnI (fun (j109 : Unit → Option (Bool × mm_H)) => ∀ (_ : Unit), mm_E2 mm_SQ mm_SQ mL_law 3325 [some (.ref 360), some (.ref 0), some (.ref 352), some (.ref 358), some (.ref 359), some (.int i), none, none, none] [] x5.2 (j109 ()) lf_ze) ?_ (fun j10 j10p => ?_)
    · intro _
      refine me_goto (tgt := 3496) dL_law_3325 (by decide) ?_
      exact jp x5.2
    refine me_if_ne (pc' := 3313) (tgt := 3325) dL_law_3310 (by decide) rfl (fun c11 => ?_) (fun c11 => ?_)
    · exact mm_maskB [true, true, true, true, true, true, false, false, false] (j10p ())
    · refine me_aload_n (pc' := 3314) (i := 3) dL_law_3313 rfl rfl rfl ?_
      refine me_iconst (pc' := 3315) (v := 0) dL_law_3314 rfl kc_i0 ?_
      refine mm_guard (fun c12 => ?_)
      refine me_lald (pc' := 3316) dL_law_3315 rfl kd_358 (mm_ltQ kd_358) (mm_ibd_of c12) ?_
      refine me_iload (pc' := 3318) (i := 7) dL_law_3316 rfl rfl ?_
      refine me_i2l (pc' := 3319) dL_law_3318 rfl ?_
      refine me_lcmp (pc' := 3320) dL_law_3319 rfl ?_
      refine me_if_eq (pc' := 3323) (tgt := 3325) dL_law_3320 (by decide) rfl (fun c13 => ?_) (fun c13 => ?_)
      · exact mm_maskB [true, true, true, true, true, true, false, false, false] (j10p ())
      · refine me_iconst (pc' := 3324) (v := 0) dL_law_3323 rfl kc_i0 ?_
        exact me_zret (b := false) dL_law_3324 rfl (fun z => z) rfl
  · refine me_iconst (pc' := 3307) (v := 0) dL_law_3306 rfl kc_i0 ?_
    exact me_zret (b := false) dL_law_3307 rfl (fun z => z) rfl
def gL_c3328 (i : Int32) (j : mm_H → Option (Bool × mm_H)) (h : mm_H) : Option (Bool × mm_H) :=
if mm_isb ((i + 1)) (mh_I h 360 0) = true then
(gL_restore ((mh_I h 360 (Int32.toNatClampNeg ((i + 1)) + 1))) h).bind (fun (x2 : (Int32 × mm_H)) =>
if mm_isb ((i + 1)) (mh_I x2.2 360 0) = true then
(gX11_restore ((mh_I x2.2 360 (Int32.toNatClampNeg ((i + 1)) + 1))) x2.2).bind (fun (x5 : (Int32 × mm_H)) =>
(gX11_thrown x5.2).bind (fun (x7 : Int32) =>
if x7 = x2.1 then
mm_jn (fun (_ : Unit) =>
j x5.2) (fun (j10 : Unit → Option (Bool × mm_H)) =>
if x2.1 = 0 then
if mm_ibd 0 1 = true then
if (lg_cmp ((mh_J x5.2 358 (Int32.toNatClampNeg (0)))) ((x5.1).toInt64)) = 0 then
j10 ()
else
some (false, x5.2) else none
else
j10 ())
else
some (false, x5.2))) else none) else none
theorem rL_c3328 (i : Int32) (j : mm_H → Option (Bool × mm_H)) (jp : ∀ h, mm_E2 mm_SQ mm_SQ mL_law 3496 [some (.ref 360), some (.ref 0), some (.ref 352), some (.ref 358), some (.ref 359), some (.int i), none, none, none] [] h (j h) lf_ze) (h : mm_H) : mm_E2 mm_SQ mm_SQ mL_law 3328 [some (.ref 360), some (.ref 0), some (.ref 352), some (.ref 358), some (.ref 359), some (.int i), none, none, none] [] h (gL_c3328 i j h) lf_ze := by
  unfold gL_c3328
  refine me_aload_n (pc' := 3329) (i := 1) dL_law_3328 rfl rfl rfl ?_
  refine me_aload_n (pc' := 3330) (i := 0) dL_law_3329 rfl rfl rfl ?_
  refine me_iload (pc' := 3332) (i := 5) dL_law_3330 rfl rfl ?_
  refine me_iconst (pc' := 3333) (v := 1) dL_law_3332 rfl kc_i1 ?_
  refine me_iadd (pc' := 3334) dL_law_3333 rfl ?_
  refine mm_guard (fun c1 => ?_)
  refine me_scld (pc' := 3335) dL_law_3334 rfl c1 ?_
  refine me_aload_n (pc' := 3336) (i := 3) dL_law_3335 rfl rfl rfl ?_
  refine me_callSX (As := [.ref 0, .int (mh_I h 360 (Int32.toNatClampNeg ((i + 1)) + 1)), .ref 358]) (st := []) (F' := mm_SQ) (G' := mm_SQ) (F'' := mm_SQ) (pc' := 3339) dL_law_3336 rfl mfL_restore rfl lx_377 ⟨Nat.le_of_ble_eq_true rfl, Nat.le_of_ble_eq_true rfl⟩ (Nat.le_of_ble_eq_true rfl) (fun z => z) (mm_RQ (fun t => rL_restore (q := (360, t)) ((mh_I h 360 (Int32.toNatClampNeg ((i + 1)) + 1))) h (Nat.le_of_ble_eq_true rfl))) (fun x2 e3 => Or.inl ⟨_, _, rfl, fun z => z, ?_⟩)
  show mm_E2 _ _ _ _ _ [.int x2.1] x2.2 _ _
  refine me_istore (pc' := 3341) (i := 6) (L' := [some (.ref 360), some (.ref 0), some (.ref 352), some (.ref 358), some (.ref 359), some (.int i), some (.int x2.1), none, none]) dL_law_3339 rfl (Nat.le_of_ble_eq_true rfl) (Nat.le_of_ble_eq_true rfl) rfl ?_
  refine me_aload_n (pc' := 3342) (i := 2) dL_law_3341 rfl rfl rfl ?_
  refine me_aload_n (pc' := 3343) (i := 0) dL_law_3342 rfl rfl rfl ?_
  refine me_iload (pc' := 3345) (i := 5) dL_law_3343 rfl rfl ?_
  refine me_iconst (pc' := 3346) (v := 1) dL_law_3345 rfl kc_i1 ?_
  refine me_iadd (pc' := 3347) dL_law_3346 rfl ?_
  refine mm_guard (fun c4 => ?_)
  refine me_scld (pc' := 3348) dL_law_3347 rfl c4 ?_
  refine me_callV (As := [.int (mh_I x2.2 360 (Int32.toNatClampNeg ((i + 1)) + 1))]) (st := []) (F' := mm_SQ) (G' := mm_SQ) (F'' := mm_SQ) (pc' := 3351) dL_law_3348 rfl mfX11_restore rfl lkL_379 kd_352 rfl (mm_ltQ kd_352) ⟨Nat.le_of_ble_eq_true rfl, Nat.le_of_ble_eq_true rfl⟩ (Nat.le_of_ble_eq_true rfl) (fun z => z) (mm_RQ (fun t => rX11_restore (q := (360, t)) ((mh_I x2.2 360 (Int32.toNatClampNeg ((i + 1)) + 1))) x2.2 (Nat.le_of_ble_eq_true rfl))) (fun x5 e6 => Or.inl ⟨_, _, rfl, fun z => z, ?_⟩)
  show mm_E2 _ _ _ _ _ [.int x5.1] x5.2 _ _
  refine me_istore (pc' := 3353) (i := 7) (L' := [some (.ref 360), some (.ref 0), some (.ref 352), some (.ref 358), some (.ref 359), some (.int i), some (.int x2.1), some (.int x5.1), none]) dL_law_3351 rfl (Nat.le_of_ble_eq_true rfl) (Nat.le_of_ble_eq_true rfl) rfl ?_
  refine me_aload_n (pc' := 3354) (i := 2) dL_law_3353 rfl rfl rfl ?_
  refine me_callV (As := []) (st := []) (F' := mm_SQ) (G' := mm_SQ) (F'' := mm_SQ) (pc' := 3357) dL_law_3354 rfl mfX11_thrown rfl lkL_186 kd_352 rfl (mm_ltQ kd_352) ⟨Nat.le_of_ble_eq_true rfl, Nat.le_of_ble_eq_true rfl⟩ (Nat.le_of_ble_eq_true rfl) (fun z => z) (mm_RQ (fun t => rX11_thrown (q := (360, t)) x5.2 (Nat.le_of_ble_eq_true rfl))) (fun x7 e8 => Or.inl ⟨_, _, rfl, fun z => z, ?_⟩)
  show mm_E2 _ _ _ _ _ [.int x7] x5.2 _ _
  refine me_iload (pc' := 3359) (i := 6) dL_law_3357 rfl rfl ?_
  refine me_icmp_eq (pc' := 3362) (tgt := 3364) dL_law_3359 (by decide) rfl (fun c9 => ?_) (fun c9 => ?_)
  · refine me_iload (pc' := 3366) (i := 6) dL_law_3364 rfl rfl ?_
    refine mm_jnI (fun (j109 : Unit → Option (Bool × mm_H)) => ∀ (_ : Unit), mm_E2 mm_SQ mm_SQ mL_law 3381 [some (.ref 360), some (.ref 0), some (.ref 352), some (.ref 358), some (.ref 359), some (.int i), none, none, none] [] x5.2 (j109 ()) lf_ze) ?_ (fun j10 j10p => ?_)
    · intro _
      refine me_goto (tgt := 3496) dL_law_3381 (by decide) ?_
      exact jp x5.2
    refine me_if_ne (pc' := 3369) (tgt := 3381) dL_law_3366 (by decide) rfl (fun c11 => ?_) (fun c11 => ?_)
    · exact mm_maskB [true, true, true, true, true, true, false, false, false] (j10p ())
    · refine me_aload_n (pc' := 3370) (i := 3) dL_law_3369 rfl rfl rfl ?_
      refine me_iconst (pc' := 3371) (v := 0) dL_law_3370 rfl kc_i0 ?_
      refine mm_guard (fun c12 => ?_)
      refine me_lald (pc' := 3372) dL_law_3371 rfl kd_358 (mm_ltQ kd_358) (mm_ibd_of c12) ?_
      refine me_iload (pc' := 3374) (i := 7) dL_law_3372 rfl rfl ?_
      refine me_i2l (pc' := 3375) dL_law_3374 rfl ?_
      refine me_lcmp (pc' := 3376) dL_law_3375 rfl ?_
      refine me_if_eq (pc' := 3379) (tgt := 3381) dL_law_3376 (by decide) rfl (fun c13 => ?_) (fun c13 => ?_)
      · exact mm_maskB [true, true, true, true, true, true, false, false, false] (j10p ())
      · refine me_iconst (pc' := 3380) (v := 0) dL_law_3379 rfl kc_i0 ?_
        exact me_zret (b := false) dL_law_3380 rfl (fun z => z) rfl
  · refine me_iconst (pc' := 3363) (v := 0) dL_law_3362 rfl kc_i0 ?_
    exact me_zret (b := false) dL_law_3363 rfl (fun z => z) rfl
def gL_c3384 (i : Int32) (j : mm_H → Option (Bool × mm_H)) (h : mm_H) : Option (Bool × mm_H) :=
if mm_isb ((i + 1)) (mh_I h 360 0) = true then
(gL_writeBatches ((mh_I h 360 (Int32.toNatClampNeg ((i + 1)) + 1))) h).bind (fun (x2 : (Int32 × mm_H)) =>
if mm_isb ((i + 1)) (mh_I x2.2 360 0) = true then
(gX11_writeBatches ((mh_I x2.2 360 (Int32.toNatClampNeg ((i + 1)) + 1))) x2.2).bind (fun (x5 : (Int32 × mm_H)) =>
(gX11_thrown x5.2).bind (fun (x7 : Int32) =>
if x7 = x2.1 then
mm_jn (fun (_ : Unit) =>
j x5.2) (fun (j10 : Unit → Option (Bool × mm_H)) =>
if x2.1 = 0 then
if mm_ibd 0 1 = true then
if (lg_cmp ((mh_J x5.2 358 (Int32.toNatClampNeg (0)))) ((x5.1).toInt64)) = 0 then
j10 ()
else
some (false, x5.2) else none
else
j10 ())
else
some (false, x5.2))) else none) else none
theorem rL_c3384 (i : Int32) (j : mm_H → Option (Bool × mm_H)) (jp : ∀ h, mm_E2 mm_SQ mm_SQ mL_law 3496 [some (.ref 360), some (.ref 0), some (.ref 352), some (.ref 358), some (.ref 359), some (.int i), none, none, none] [] h (j h) lf_ze) (h : mm_H) : mm_E2 mm_SQ mm_SQ mL_law 3384 [some (.ref 360), some (.ref 0), some (.ref 352), some (.ref 358), some (.ref 359), some (.int i), none, none, none] [] h (gL_c3384 i j h) lf_ze := by
  unfold gL_c3384
  refine me_aload_n (pc' := 3385) (i := 1) dL_law_3384 rfl rfl rfl ?_
  refine me_aload_n (pc' := 3386) (i := 0) dL_law_3385 rfl rfl rfl ?_
  refine me_iload (pc' := 3388) (i := 5) dL_law_3386 rfl rfl ?_
  refine me_iconst (pc' := 3389) (v := 1) dL_law_3388 rfl kc_i1 ?_
  refine me_iadd (pc' := 3390) dL_law_3389 rfl ?_
  refine mm_guard (fun c1 => ?_)
  refine me_scld (pc' := 3391) dL_law_3390 rfl c1 ?_
  refine me_aload_n (pc' := 3392) (i := 3) dL_law_3391 rfl rfl rfl ?_
  refine me_callSX (As := [.ref 0, .int (mh_I h 360 (Int32.toNatClampNeg ((i + 1)) + 1)), .ref 358]) (st := []) (F' := mm_SQ) (G' := mm_SQ) (F'' := mm_SQ) (pc' := 3395) dL_law_3392 rfl mfL_writeBatches rfl lx_380 ⟨Nat.le_of_ble_eq_true rfl, Nat.le_of_ble_eq_true rfl⟩ (Nat.le_of_ble_eq_true rfl) (fun z => z) (mm_RQ (fun t => rL_writeBatches (q := (360, t)) ((mh_I h 360 (Int32.toNatClampNeg ((i + 1)) + 1))) h (Nat.le_of_ble_eq_true rfl))) (fun x2 e3 => Or.inl ⟨_, _, rfl, fun z => z, ?_⟩)
  show mm_E2 _ _ _ _ _ [.int x2.1] x2.2 _ _
  refine me_istore (pc' := 3397) (i := 6) (L' := [some (.ref 360), some (.ref 0), some (.ref 352), some (.ref 358), some (.ref 359), some (.int i), some (.int x2.1), none, none]) dL_law_3395 rfl (Nat.le_of_ble_eq_true rfl) (Nat.le_of_ble_eq_true rfl) rfl ?_
  refine me_aload_n (pc' := 3398) (i := 2) dL_law_3397 rfl rfl rfl ?_
  refine me_aload_n (pc' := 3399) (i := 0) dL_law_3398 rfl rfl rfl ?_
  refine me_iload (pc' := 3401) (i := 5) dL_law_3399 rfl rfl ?_
  refine me_iconst (pc' := 3402) (v := 1) dL_law_3401 rfl kc_i1 ?_
  refine me_iadd (pc' := 3403) dL_law_3402 rfl ?_
  refine mm_guard (fun c4 => ?_)
  refine me_scld (pc' := 3404) dL_law_3403 rfl c4 ?_
  refine me_callV (As := [.int (mh_I x2.2 360 (Int32.toNatClampNeg ((i + 1)) + 1))]) (st := []) (F' := mm_SQ) (G' := mm_SQ) (F'' := mm_SQ) (pc' := 3407) dL_law_3404 rfl mfX11_writeBatches rfl lkL_382 kd_352 rfl (mm_ltQ kd_352) ⟨Nat.le_of_ble_eq_true rfl, Nat.le_of_ble_eq_true rfl⟩ (Nat.le_of_ble_eq_true rfl) (fun z => z) (mm_RQ (fun t => rX11_writeBatches (q := (360, t)) ((mh_I x2.2 360 (Int32.toNatClampNeg ((i + 1)) + 1))) x2.2 (Nat.le_of_ble_eq_true rfl))) (fun x5 e6 => Or.inl ⟨_, _, rfl, fun z => z, ?_⟩)
  show mm_E2 _ _ _ _ _ [.int x5.1] x5.2 _ _
  refine me_istore (pc' := 3409) (i := 7) (L' := [some (.ref 360), some (.ref 0), some (.ref 352), some (.ref 358), some (.ref 359), some (.int i), some (.int x2.1), some (.int x5.1), none]) dL_law_3407 rfl (Nat.le_of_ble_eq_true rfl) (Nat.le_of_ble_eq_true rfl) rfl ?_
  refine me_aload_n (pc' := 3410) (i := 2) dL_law_3409 rfl rfl rfl ?_
  refine me_callV (As := []) (st := []) (F' := mm_SQ) (G' := mm_SQ) (F'' := mm_SQ) (pc' := 3413) dL_law_3410 rfl mfX11_thrown rfl lkL_186 kd_352 rfl (mm_ltQ kd_352) ⟨Nat.le_of_ble_eq_true rfl, Nat.le_of_ble_eq_true rfl⟩ (Nat.le_of_ble_eq_true rfl) (fun z => z) (mm_RQ (fun t => rX11_thrown (q := (360, t)) x5.2 (Nat.le_of_ble_eq_true rfl))) (fun x7 e8 => Or.inl ⟨_, _, rfl, fun z => z, ?_⟩)
  show mm_E2 _ _ _ _ _ [.int x7] x5.2 _ _
  refine me_iload (pc' := 3415) (i := 6) dL_law_3413 rfl rfl ?_
  refine me_icmp_eq (pc' := 3418) (tgt := 3420) dL_law_3415 (by decide) rfl (fun c9 => ?_) (fun c9 => ?_)
  · refine me_iload (pc' := 3422) (i := 6) dL_law_3420 rfl rfl ?_
    refine mm_jnI (fun (j109 : Unit → Option (Bool × mm_H)) => ∀ (_ : Unit), mm_E2 mm_SQ mm_SQ mL_law 3437 [some (.ref 360), some (.ref 0), some (.ref 352), some (.ref 358), some (.ref 359), some (.int i), none, none, none] [] x5.2 (j109 ()) lf_ze) ?_ (fun j10 j10p => ?_)
    · intro _
      refine me_goto (tgt := 3496) dL_law_3437 (by decide) ?_
      exact jp x5.2
    refine me_if_ne (pc' := 3425) (tgt := 3437) dL_law_3422 (by decide) rfl (fun c11 => ?_) (fun c11 => ?_)
    · exact mm_maskB [true, true, true, true, true, true, false, false, false] (j10p ())
    · refine me_aload_n (pc' := 3426) (i := 3) dL_law_3425 rfl rfl rfl ?_
      refine me_iconst (pc' := 3427) (v := 0) dL_law_3426 rfl kc_i0 ?_
      refine mm_guard (fun c12 => ?_)
      refine me_lald (pc' := 3428) dL_law_3427 rfl kd_358 (mm_ltQ kd_358) (mm_ibd_of c12) ?_
      refine me_iload (pc' := 3430) (i := 7) dL_law_3428 rfl rfl ?_
      refine me_i2l (pc' := 3431) dL_law_3430 rfl ?_
      refine me_lcmp (pc' := 3432) dL_law_3431 rfl ?_
      refine me_if_eq (pc' := 3435) (tgt := 3437) dL_law_3432 (by decide) rfl (fun c13 => ?_) (fun c13 => ?_)
      · exact mm_maskB [true, true, true, true, true, true, false, false, false] (j10p ())
      · refine me_iconst (pc' := 3436) (v := 0) dL_law_3435 rfl kc_i0 ?_
        exact me_zret (b := false) dL_law_3436 rfl (fun z => z) rfl
  · refine me_iconst (pc' := 3419) (v := 0) dL_law_3418 rfl kc_i0 ?_
    exact me_zret (b := false) dL_law_3419 rfl (fun z => z) rfl
def gL_c3440 (i : Int32) (j : mm_H → Option (Bool × mm_H)) (h : mm_H) : Option (Bool × mm_H) :=
if mm_isb ((i + 1)) (mh_I h 360 0) = true then
(gL_outputByte ((mh_I h 360 (Int32.toNatClampNeg ((i + 1)) + 1))) h).bind (fun (x2 : (Int32 × mm_H)) =>
if mm_isb ((i + 1)) (mh_I x2.2 360 0) = true then
(gX11_outputByte ((mh_I x2.2 360 (Int32.toNatClampNeg ((i + 1)) + 1))) x2.2).bind (fun (x5 : (Int32 × mm_H)) =>
(gX11_thrown x5.2).bind (fun (x7 : Int32) =>
if x7 = x2.1 then
mm_jn (fun (_ : Unit) =>
j x5.2) (fun (j10 : Unit → Option (Bool × mm_H)) =>
if x2.1 = 0 then
if mm_ibd 0 1 = true then
if (lg_cmp ((mh_J x5.2 358 (Int32.toNatClampNeg (0)))) ((x5.1).toInt64)) = 0 then
j10 ()
else
some (false, x5.2) else none
else
j10 ())
else
some (false, x5.2))) else none) else none
theorem rL_c3440 (i : Int32) (j : mm_H → Option (Bool × mm_H)) (jp : ∀ h, mm_E2 mm_SQ mm_SQ mL_law 3496 [some (.ref 360), some (.ref 0), some (.ref 352), some (.ref 358), some (.ref 359), some (.int i), none, none, none] [] h (j h) lf_ze) (h : mm_H) : mm_E2 mm_SQ mm_SQ mL_law 3440 [some (.ref 360), some (.ref 0), some (.ref 352), some (.ref 358), some (.ref 359), some (.int i), none, none, none] [] h (gL_c3440 i j h) lf_ze := by
  unfold gL_c3440
  refine me_aload_n (pc' := 3441) (i := 1) dL_law_3440 rfl rfl rfl ?_
  refine me_aload_n (pc' := 3442) (i := 0) dL_law_3441 rfl rfl rfl ?_
  refine me_iload (pc' := 3444) (i := 5) dL_law_3442 rfl rfl ?_
  refine me_iconst (pc' := 3445) (v := 1) dL_law_3444 rfl kc_i1 ?_
  refine me_iadd (pc' := 3446) dL_law_3445 rfl ?_
  refine mm_guard (fun c1 => ?_)
  refine me_scld (pc' := 3447) dL_law_3446 rfl c1 ?_
  refine me_aload_n (pc' := 3448) (i := 3) dL_law_3447 rfl rfl rfl ?_
  refine me_callSX (As := [.ref 0, .int (mh_I h 360 (Int32.toNatClampNeg ((i + 1)) + 1)), .ref 358]) (st := []) (F' := mm_SQ) (G' := mm_SQ) (F'' := mm_SQ) (pc' := 3451) dL_law_3448 rfl mfL_outputByte rfl lx_383 ⟨Nat.le_of_ble_eq_true rfl, Nat.le_of_ble_eq_true rfl⟩ (Nat.le_of_ble_eq_true rfl) (fun z => z) (mm_RQ (fun t => rL_outputByte (q := (360, t)) ((mh_I h 360 (Int32.toNatClampNeg ((i + 1)) + 1))) h (Nat.le_of_ble_eq_true rfl))) (fun x2 e3 => Or.inl ⟨_, _, rfl, fun z => z, ?_⟩)
  show mm_E2 _ _ _ _ _ [.int x2.1] x2.2 _ _
  refine me_istore (pc' := 3453) (i := 6) (L' := [some (.ref 360), some (.ref 0), some (.ref 352), some (.ref 358), some (.ref 359), some (.int i), some (.int x2.1), none, none]) dL_law_3451 rfl (Nat.le_of_ble_eq_true rfl) (Nat.le_of_ble_eq_true rfl) rfl ?_
  refine me_aload_n (pc' := 3454) (i := 2) dL_law_3453 rfl rfl rfl ?_
  refine me_aload_n (pc' := 3455) (i := 0) dL_law_3454 rfl rfl rfl ?_
  refine me_iload (pc' := 3457) (i := 5) dL_law_3455 rfl rfl ?_
  refine me_iconst (pc' := 3458) (v := 1) dL_law_3457 rfl kc_i1 ?_
  refine me_iadd (pc' := 3459) dL_law_3458 rfl ?_
  refine mm_guard (fun c4 => ?_)
  refine me_scld (pc' := 3460) dL_law_3459 rfl c4 ?_
  refine me_callV (As := [.int (mh_I x2.2 360 (Int32.toNatClampNeg ((i + 1)) + 1))]) (st := []) (F' := mm_SQ) (G' := mm_SQ) (F'' := mm_SQ) (pc' := 3463) dL_law_3460 rfl mfX11_outputByte rfl lkL_385 kd_352 rfl (mm_ltQ kd_352) ⟨Nat.le_of_ble_eq_true rfl, Nat.le_of_ble_eq_true rfl⟩ (Nat.le_of_ble_eq_true rfl) (fun z => z) (mm_RQ (fun t => rX11_outputByte (q := (360, t)) ((mh_I x2.2 360 (Int32.toNatClampNeg ((i + 1)) + 1))) x2.2 (Nat.le_of_ble_eq_true rfl))) (fun x5 e6 => Or.inl ⟨_, _, rfl, fun z => z, ?_⟩)
  show mm_E2 _ _ _ _ _ [.int x5.1] x5.2 _ _
  refine me_istore (pc' := 3465) (i := 7) (L' := [some (.ref 360), some (.ref 0), some (.ref 352), some (.ref 358), some (.ref 359), some (.int i), some (.int x2.1), some (.int x5.1), none]) dL_law_3463 rfl (Nat.le_of_ble_eq_true rfl) (Nat.le_of_ble_eq_true rfl) rfl ?_
  refine me_aload_n (pc' := 3466) (i := 2) dL_law_3465 rfl rfl rfl ?_
  refine me_callV (As := []) (st := []) (F' := mm_SQ) (G' := mm_SQ) (F'' := mm_SQ) (pc' := 3469) dL_law_3466 rfl mfX11_thrown rfl lkL_186 kd_352 rfl (mm_ltQ kd_352) ⟨Nat.le_of_ble_eq_true rfl, Nat.le_of_ble_eq_true rfl⟩ (Nat.le_of_ble_eq_true rfl) (fun z => z) (mm_RQ (fun t => rX11_thrown (q := (360, t)) x5.2 (Nat.le_of_ble_eq_true rfl))) (fun x7 e8 => Or.inl ⟨_, _, rfl, fun z => z, ?_⟩)
  show mm_E2 _ _ _ _ _ [.int x7] x5.2 _ _
  refine me_iload (pc' := 3471) (i := 6) dL_law_3469 rfl rfl ?_
  refine me_icmp_eq (pc' := 3474) (tgt := 3476) dL_law_3471 (by decide) rfl (fun c9 => ?_) (fun c9 => ?_)
  · refine me_iload (pc' := 3478) (i := 6) dL_law_3476 rfl rfl ?_
    refine mm_jnI (fun (j109 : Unit → Option (Bool × mm_H)) => ∀ (_ : Unit), mm_E2 mm_SQ mm_SQ mL_law 3493 [some (.ref 360), some (.ref 0), some (.ref 352), some (.ref 358), some (.ref 359), some (.int i), none, none, none] [] x5.2 (j109 ()) lf_ze) ?_ (fun j10 j10p => ?_)
    · intro _
      refine me_goto (tgt := 3496) dL_law_3493 (by decide) ?_
      exact jp x5.2
    refine me_if_ne (pc' := 3481) (tgt := 3493) dL_law_3478 (by decide) rfl (fun c11 => ?_) (fun c11 => ?_)
    · exact mm_maskB [true, true, true, true, true, true, false, false, false] (j10p ())
    · refine me_aload_n (pc' := 3482) (i := 3) dL_law_3481 rfl rfl rfl ?_
      refine me_iconst (pc' := 3483) (v := 0) dL_law_3482 rfl kc_i0 ?_
      refine mm_guard (fun c12 => ?_)
      refine me_lald (pc' := 3484) dL_law_3483 rfl kd_358 (mm_ltQ kd_358) (mm_ibd_of c12) ?_
      refine me_iload (pc' := 3486) (i := 7) dL_law_3484 rfl rfl ?_
      refine me_i2l (pc' := 3487) dL_law_3486 rfl ?_
      refine me_lcmp (pc' := 3488) dL_law_3487 rfl ?_
      refine me_if_eq (pc' := 3491) (tgt := 3493) dL_law_3488 (by decide) rfl (fun c13 => ?_) (fun c13 => ?_)
      · exact mm_maskB [true, true, true, true, true, true, false, false, false] (j10p ())
      · refine me_iconst (pc' := 3492) (v := 0) dL_law_3491 rfl kc_i0 ?_
        exact me_zret (b := false) dL_law_3492 rfl (fun z => z) rfl
  · refine me_iconst (pc' := 3475) (v := 0) dL_law_3474 rfl kc_i0 ?_
    exact me_zret (b := false) dL_law_3475 rfl (fun z => z) rfl
def gL_loop : Nat → Int32 → mm_H → Option (Bool × mm_H)
  | 0, _, _ => none
  | n + 1, i, h =>
    if ((mh_I h 360 0) - 6) < i then
    some (true, h)
    else
    if mm_isb i (mh_I h 360 0) = true then
    (some (mh_I h 360 (Int32.toNatClampNeg i + 1) &&& 63)).bind (fun (x : Int32) =>
    mm_jn (fun (h : mm_H) =>
    (some (i + 6)).bind (fun (x : Int32) =>
    gL_loop n x h)) (fun (j : mm_H → Option (Bool × mm_H)) =>
    if x = 0 then gL_c304 i j h else
    if x = 1 then gL_c408 i j h else
    if x = 2 then gL_c464 i j h else
    if x = 3 then gL_c508 i j h else
    if x = 4 then gL_c521 i j h else
    if x = 5 then gL_c534 i j h else
    if x = 6 then gL_c547 i j h else
    if x = 7 then gL_c560 i j h else
    if x = 8 then gL_c628 i j h else
    if x = 9 then gL_c672 i j h else
    if x = 10 then gL_c728 i j h else
    if x = 11 then gL_c784 i j h else
    if x = 12 then gL_c840 i j h else
    if x = 13 then gL_c908 i j h else
    if x = 14 then gL_c964 i j h else
    if x = 15 then gL_c1032 i j h else
    if x = 16 then gL_c1088 i j h else
    if x = 17 then gL_c1101 i j h else
    if x = 18 then gL_c1157 i j h else
    if x = 19 then gL_c1170 i j h else
    if x = 20 then gL_c1183 i j h else
    if x = 21 then gL_c1239 i j h else
    if x = 22 then gL_c1295 i j h else
    if x = 23 then gL_c1351 i j h else
    if x = 24 then gL_c1407 i j h else
    if x = 25 then gL_c1463 i j h else
    if x = 26 then gL_c1526 i j h else
    if x = 27 then gL_c1594 i j h else
    if x = 28 then gL_c1662 i j h else
    if x = 29 then gL_c1675 i j h else
    if x = 30 then gL_c1731 i j h else
    if x = 31 then gL_c1787 i j h else
    if x = 32 then gL_c1850 i j h else
    if x = 33 then gL_c1906 i j h else
    if x = 34 then gL_c1974 i j h else
    if x = 35 then gL_c2030 i j h else
    if x = 36 then gL_c2043 i j h else
    if x = 37 then gL_c2099 i j h else
    if x = 38 then gL_c2155 i j h else
    if x = 39 then gL_c2211 i j h else
    if x = 40 then gL_c2267 i j h else
    if x = 41 then gL_c2344 i j h else
    if x = 42 then gL_c2422 i j h else
    if x = 43 then gL_c2435 i j h else
    if x = 44 then gL_c2503 i j h else
    if x = 45 then gL_c2583 i j h else
    if x = 46 then gL_c2639 i j h else
    if x = 47 then gL_c2731 i j h else
    if x = 48 then gL_c2799 i j h else
    if x = 49 then gL_c2879 i j h else
    if x = 50 then gL_c2935 i j h else
    if x = 51 then gL_c2991 i j h else
    if x = 52 then gL_c3047 i j h else
    if x = 53 then gL_c3115 i j h else
    if x = 54 then gL_c3128 i j h else
    if x = 55 then gL_c3184 i j h else
    if x = 56 then gL_c3228 i j h else
    if x = 57 then gL_c3272 i j h else
    if x = 58 then gL_c3328 i j h else
    if x = 59 then gL_c3384 i j h else
    if x = 60 then gL_c3440 i j h else
    j h)) else none
theorem rL_loop : ∀ (n : Nat) (i : Int32) (h : mm_H), mm_E2 mm_SQ mm_SQ mL_law 28 [some (.ref 360), some (.ref 0), some (.ref 352), some (.ref 358), some (.ref 359), some (.int i), none, none, none] [] h (gL_loop n i h) lf_ze := by
  intro n
  induction n with
  | zero =>
    intro i h
    exact mm_none
  | succ n ih =>
    intro i h
    rw [gL_loop]
    refine me_iload (pc' := 30) (i := 5) dL_law_28 rfl rfl ?_
    refine me_aload_n (pc' := 31) (i := 0) dL_law_30 rfl rfl rfl ?_
    refine me_sclen (pc' := 32) dL_law_31 rfl ?_
    refine me_bipush (pc' := 34) (v := 6) dL_law_32 rfl kc_b6 ?_
    refine me_isub (pc' := 35) dL_law_34 rfl ?_
    refine me_icmp_gt (pc' := 38) (tgt := 3502) dL_law_35 (by decide) rfl (fun c1 => ?_) (fun c1 => ?_)
    · refine me_iconst (pc' := 3503) (v := 1) dL_law_3502 rfl kc_i1 ?_
      exact me_zret (b := true) dL_law_3503 rfl (fun z => z) rfl
    · refine me_aload_n (pc' := 39) (i := 0) dL_law_38 rfl rfl rfl ?_
      refine me_iload (pc' := 41) (i := 5) dL_law_39 rfl rfl ?_
      refine mm_guard (fun c2 => ?_)
      refine me_scld (pc' := 42) dL_law_41 rfl c2 ?_
      refine me_bipush (pc' := 44) (v := 63) dL_law_42 rfl kc_b63 ?_
      refine me_iand (pc' := 45) dL_law_44 rfl ?_
      refine mm_bnd (mh_I h 360 (Int32.toNatClampNeg i + 1) &&& 63) (fun _ => [some (.ref 360), some (.ref 0), some (.ref 352), some (.ref 358), some (.ref 359), some (.int i), none, none, none]) (fun x => [.int x]) (fun _ => h) (fun x => ?_)
      refine mm_jnI (fun (j9 : mm_H → Option (Bool × mm_H)) => ∀ (h : mm_H), mm_E2 mm_SQ mm_SQ mL_law 3496 [some (.ref 360), some (.ref 0), some (.ref 352), some (.ref 358), some (.ref 359), some (.int i), none, none, none] [] h (j9 h) lf_ze) ?_ (fun j jp => ?_)
      · intro h
        refine me_iinc (pc' := 3499) (i := 5) (x := i) (y := i + 6) (L' := [some (.ref 360), some (.ref 0), some (.ref 352), some (.ref 358), some (.ref 359), some (.int (i + 6)), none, none, none]) dL_law_3496 rfl (Nat.le_of_ble_eq_true rfl) (Nat.le_of_ble_eq_true rfl) rfl (kc_plus kc_i6) rfl ?_
        refine mm_bnd (i + 6) (fun x => [some (.ref 360), some (.ref 0), some (.ref 352), some (.ref 358), some (.ref 359), some (.int x), none, none, none]) (fun _ => []) (fun _ => h) (fun x => ?_)
        refine me_goto (tgt := 28) dL_law_3499 (by decide) ?_
        exact ih x h
      refine mm_if (fun c => ?_) (fun c0_ => ?_)
      · refine me_tsw c dL_law_45 (by decide) (by decide) (tgt := 304) (off := 259) (by decide) (by decide) ?_
        exact rL_c304 i j jp h
      refine mm_if (fun c => ?_) (fun c1_ => ?_)
      · refine me_tsw c dL_law_45 (by decide) (by decide) (tgt := 408) (off := 363) (by decide) (by decide) ?_
        exact rL_c408 i j jp h
      refine mm_if (fun c => ?_) (fun c2_ => ?_)
      · refine me_tsw c dL_law_45 (by decide) (by decide) (tgt := 464) (off := 419) (by decide) (by decide) ?_
        exact rL_c464 i j jp h
      refine mm_if (fun c => ?_) (fun c3_ => ?_)
      · refine me_tsw c dL_law_45 (by decide) (by decide) (tgt := 508) (off := 463) (by decide) (by decide) ?_
        exact rL_c508 i j jp h
      refine mm_if (fun c => ?_) (fun c4_ => ?_)
      · refine me_tsw c dL_law_45 (by decide) (by decide) (tgt := 521) (off := 476) (by decide) (by decide) ?_
        exact rL_c521 i j jp h
      refine mm_if (fun c => ?_) (fun c5_ => ?_)
      · refine me_tsw c dL_law_45 (by decide) (by decide) (tgt := 534) (off := 489) (by decide) (by decide) ?_
        exact rL_c534 i j jp h
      refine mm_if (fun c => ?_) (fun c6_ => ?_)
      · refine me_tsw c dL_law_45 (by decide) (by decide) (tgt := 547) (off := 502) (by decide) (by decide) ?_
        exact rL_c547 i j jp h
      refine mm_if (fun c => ?_) (fun c7_ => ?_)
      · refine me_tsw c dL_law_45 (by decide) (by decide) (tgt := 560) (off := 515) (by decide) (by decide) ?_
        exact rL_c560 i j jp h
      refine mm_if (fun c => ?_) (fun c8_ => ?_)
      · refine me_tsw c dL_law_45 (by decide) (by decide) (tgt := 628) (off := 583) (by decide) (by decide) ?_
        exact rL_c628 i j jp h
      refine mm_if (fun c => ?_) (fun c9_ => ?_)
      · refine me_tsw c dL_law_45 (by decide) (by decide) (tgt := 672) (off := 627) (by decide) (by decide) ?_
        exact rL_c672 i j jp h
      refine mm_if (fun c => ?_) (fun c10_ => ?_)
      · refine me_tsw c dL_law_45 (by decide) (by decide) (tgt := 728) (off := 683) (by decide) (by decide) ?_
        exact rL_c728 i j jp h
      refine mm_if (fun c => ?_) (fun c11_ => ?_)
      · refine me_tsw c dL_law_45 (by decide) (by decide) (tgt := 784) (off := 739) (by decide) (by decide) ?_
        exact rL_c784 i j jp h
      refine mm_if (fun c => ?_) (fun c12_ => ?_)
      · refine me_tsw c dL_law_45 (by decide) (by decide) (tgt := 840) (off := 795) (by decide) (by decide) ?_
        exact rL_c840 i j jp h
      refine mm_if (fun c => ?_) (fun c13_ => ?_)
      · refine me_tsw c dL_law_45 (by decide) (by decide) (tgt := 908) (off := 863) (by decide) (by decide) ?_
        exact rL_c908 i j jp h
      refine mm_if (fun c => ?_) (fun c14_ => ?_)
      · refine me_tsw c dL_law_45 (by decide) (by decide) (tgt := 964) (off := 919) (by decide) (by decide) ?_
        exact rL_c964 i j jp h
      refine mm_if (fun c => ?_) (fun c15_ => ?_)
      · refine me_tsw c dL_law_45 (by decide) (by decide) (tgt := 1032) (off := 987) (by decide) (by decide) ?_
        exact rL_c1032 i j jp h
      refine mm_if (fun c => ?_) (fun c16_ => ?_)
      · refine me_tsw c dL_law_45 (by decide) (by decide) (tgt := 1088) (off := 1043) (by decide) (by decide) ?_
        exact rL_c1088 i j jp h
      refine mm_if (fun c => ?_) (fun c17_ => ?_)
      · refine me_tsw c dL_law_45 (by decide) (by decide) (tgt := 1101) (off := 1056) (by decide) (by decide) ?_
        exact rL_c1101 i j jp h
      refine mm_if (fun c => ?_) (fun c18_ => ?_)
      · refine me_tsw c dL_law_45 (by decide) (by decide) (tgt := 1157) (off := 1112) (by decide) (by decide) ?_
        exact rL_c1157 i j jp h
      refine mm_if (fun c => ?_) (fun c19_ => ?_)
      · refine me_tsw c dL_law_45 (by decide) (by decide) (tgt := 1170) (off := 1125) (by decide) (by decide) ?_
        exact rL_c1170 i j jp h
      refine mm_if (fun c => ?_) (fun c20_ => ?_)
      · refine me_tsw c dL_law_45 (by decide) (by decide) (tgt := 1183) (off := 1138) (by decide) (by decide) ?_
        exact rL_c1183 i j jp h
      refine mm_if (fun c => ?_) (fun c21_ => ?_)
      · refine me_tsw c dL_law_45 (by decide) (by decide) (tgt := 1239) (off := 1194) (by decide) (by decide) ?_
        exact rL_c1239 i j jp h
      refine mm_if (fun c => ?_) (fun c22_ => ?_)
      · refine me_tsw c dL_law_45 (by decide) (by decide) (tgt := 1295) (off := 1250) (by decide) (by decide) ?_
        exact rL_c1295 i j jp h
      refine mm_if (fun c => ?_) (fun c23_ => ?_)
      · refine me_tsw c dL_law_45 (by decide) (by decide) (tgt := 1351) (off := 1306) (by decide) (by decide) ?_
        exact rL_c1351 i j jp h
      refine mm_if (fun c => ?_) (fun c24_ => ?_)
      · refine me_tsw c dL_law_45 (by decide) (by decide) (tgt := 1407) (off := 1362) (by decide) (by decide) ?_
        exact rL_c1407 i j jp h
      refine mm_if (fun c => ?_) (fun c25_ => ?_)
      · refine me_tsw c dL_law_45 (by decide) (by decide) (tgt := 1463) (off := 1418) (by decide) (by decide) ?_
        exact rL_c1463 i j jp h
      refine mm_if (fun c => ?_) (fun c26_ => ?_)
      · refine me_tsw c dL_law_45 (by decide) (by decide) (tgt := 1526) (off := 1481) (by decide) (by decide) ?_
        exact rL_c1526 i j jp h
      refine mm_if (fun c => ?_) (fun c27_ => ?_)
      · refine me_tsw c dL_law_45 (by decide) (by decide) (tgt := 1594) (off := 1549) (by decide) (by decide) ?_
        exact rL_c1594 i j jp h
      refine mm_if (fun c => ?_) (fun c28_ => ?_)
      · refine me_tsw c dL_law_45 (by decide) (by decide) (tgt := 1662) (off := 1617) (by decide) (by decide) ?_
        exact rL_c1662 i j jp h
      refine mm_if (fun c => ?_) (fun c29_ => ?_)
      · refine me_tsw c dL_law_45 (by decide) (by decide) (tgt := 1675) (off := 1630) (by decide) (by decide) ?_
        exact rL_c1675 i j jp h
      refine mm_if (fun c => ?_) (fun c30_ => ?_)
      · refine me_tsw c dL_law_45 (by decide) (by decide) (tgt := 1731) (off := 1686) (by decide) (by decide) ?_
        exact rL_c1731 i j jp h
      refine mm_if (fun c => ?_) (fun c31_ => ?_)
      · refine me_tsw c dL_law_45 (by decide) (by decide) (tgt := 1787) (off := 1742) (by decide) (by decide) ?_
        exact rL_c1787 i j jp h
      refine mm_if (fun c => ?_) (fun c32_ => ?_)
      · refine me_tsw c dL_law_45 (by decide) (by decide) (tgt := 1850) (off := 1805) (by decide) (by decide) ?_
        exact rL_c1850 i j jp h
      refine mm_if (fun c => ?_) (fun c33_ => ?_)
      · refine me_tsw c dL_law_45 (by decide) (by decide) (tgt := 1906) (off := 1861) (by decide) (by decide) ?_
        exact rL_c1906 i j jp h
      refine mm_if (fun c => ?_) (fun c34_ => ?_)
      · refine me_tsw c dL_law_45 (by decide) (by decide) (tgt := 1974) (off := 1929) (by decide) (by decide) ?_
        exact rL_c1974 i j jp h
      refine mm_if (fun c => ?_) (fun c35_ => ?_)
      · refine me_tsw c dL_law_45 (by decide) (by decide) (tgt := 2030) (off := 1985) (by decide) (by decide) ?_
        exact rL_c2030 i j jp h
      refine mm_if (fun c => ?_) (fun c36_ => ?_)
      · refine me_tsw c dL_law_45 (by decide) (by decide) (tgt := 2043) (off := 1998) (by decide) (by decide) ?_
        exact rL_c2043 i j jp h
      refine mm_if (fun c => ?_) (fun c37_ => ?_)
      · refine me_tsw c dL_law_45 (by decide) (by decide) (tgt := 2099) (off := 2054) (by decide) (by decide) ?_
        exact rL_c2099 i j jp h
      refine mm_if (fun c => ?_) (fun c38_ => ?_)
      · refine me_tsw c dL_law_45 (by decide) (by decide) (tgt := 2155) (off := 2110) (by decide) (by decide) ?_
        exact rL_c2155 i j jp h
      refine mm_if (fun c => ?_) (fun c39_ => ?_)
      · refine me_tsw c dL_law_45 (by decide) (by decide) (tgt := 2211) (off := 2166) (by decide) (by decide) ?_
        exact rL_c2211 i j jp h
      refine mm_if (fun c => ?_) (fun c40_ => ?_)
      · refine me_tsw c dL_law_45 (by decide) (by decide) (tgt := 2267) (off := 2222) (by decide) (by decide) ?_
        exact rL_c2267 i j jp h
      refine mm_if (fun c => ?_) (fun c41_ => ?_)
      · refine me_tsw c dL_law_45 (by decide) (by decide) (tgt := 2344) (off := 2299) (by decide) (by decide) ?_
        exact rL_c2344 i j jp h
      refine mm_if (fun c => ?_) (fun c42_ => ?_)
      · refine me_tsw c dL_law_45 (by decide) (by decide) (tgt := 2422) (off := 2377) (by decide) (by decide) ?_
        exact rL_c2422 i j jp h
      refine mm_if (fun c => ?_) (fun c43_ => ?_)
      · refine me_tsw c dL_law_45 (by decide) (by decide) (tgt := 2435) (off := 2390) (by decide) (by decide) ?_
        exact rL_c2435 i j jp h
      refine mm_if (fun c => ?_) (fun c44_ => ?_)
      · refine me_tsw c dL_law_45 (by decide) (by decide) (tgt := 2503) (off := 2458) (by decide) (by decide) ?_
        exact rL_c2503 i j jp h
      refine mm_if (fun c => ?_) (fun c45_ => ?_)
      · refine me_tsw c dL_law_45 (by decide) (by decide) (tgt := 2583) (off := 2538) (by decide) (by decide) ?_
        exact rL_c2583 i j jp h
      refine mm_if (fun c => ?_) (fun c46_ => ?_)
      · refine me_tsw c dL_law_45 (by decide) (by decide) (tgt := 2639) (off := 2594) (by decide) (by decide) ?_
        exact rL_c2639 i j jp h
      refine mm_if (fun c => ?_) (fun c47_ => ?_)
      · refine me_tsw c dL_law_45 (by decide) (by decide) (tgt := 2731) (off := 2686) (by decide) (by decide) ?_
        exact rL_c2731 i j jp h
      refine mm_if (fun c => ?_) (fun c48_ => ?_)
      · refine me_tsw c dL_law_45 (by decide) (by decide) (tgt := 2799) (off := 2754) (by decide) (by decide) ?_
        exact rL_c2799 i j jp h
      refine mm_if (fun c => ?_) (fun c49_ => ?_)
      · refine me_tsw c dL_law_45 (by decide) (by decide) (tgt := 2879) (off := 2834) (by decide) (by decide) ?_
        exact rL_c2879 i j jp h
      refine mm_if (fun c => ?_) (fun c50_ => ?_)
      · refine me_tsw c dL_law_45 (by decide) (by decide) (tgt := 2935) (off := 2890) (by decide) (by decide) ?_
        exact rL_c2935 i j jp h
      refine mm_if (fun c => ?_) (fun c51_ => ?_)
      · refine me_tsw c dL_law_45 (by decide) (by decide) (tgt := 2991) (off := 2946) (by decide) (by decide) ?_
        exact rL_c2991 i j jp h
      refine mm_if (fun c => ?_) (fun c52_ => ?_)
      · refine me_tsw c dL_law_45 (by decide) (by decide) (tgt := 3047) (off := 3002) (by decide) (by decide) ?_
        exact rL_c3047 i j jp h
      refine mm_if (fun c => ?_) (fun c53_ => ?_)
      · refine me_tsw c dL_law_45 (by decide) (by decide) (tgt := 3115) (off := 3070) (by decide) (by decide) ?_
        exact rL_c3115 i j jp h
      refine mm_if (fun c => ?_) (fun c54_ => ?_)
      · refine me_tsw c dL_law_45 (by decide) (by decide) (tgt := 3128) (off := 3083) (by decide) (by decide) ?_
        exact rL_c3128 i j jp h
      refine mm_if (fun c => ?_) (fun c55_ => ?_)
      · refine me_tsw c dL_law_45 (by decide) (by decide) (tgt := 3184) (off := 3139) (by decide) (by decide) ?_
        exact rL_c3184 i j jp h
      refine mm_if (fun c => ?_) (fun c56_ => ?_)
      · refine me_tsw c dL_law_45 (by decide) (by decide) (tgt := 3228) (off := 3183) (by decide) (by decide) ?_
        exact rL_c3228 i j jp h
      refine mm_if (fun c => ?_) (fun c57_ => ?_)
      · refine me_tsw c dL_law_45 (by decide) (by decide) (tgt := 3272) (off := 3227) (by decide) (by decide) ?_
        exact rL_c3272 i j jp h
      refine mm_if (fun c => ?_) (fun c58_ => ?_)
      · refine me_tsw c dL_law_45 (by decide) (by decide) (tgt := 3328) (off := 3283) (by decide) (by decide) ?_
        exact rL_c3328 i j jp h
      refine mm_if (fun c => ?_) (fun c59_ => ?_)
      · refine me_tsw c dL_law_45 (by decide) (by decide) (tgt := 3384) (off := 3339) (by decide) (by decide) ?_
        exact rL_c3384 i j jp h
      refine mm_if (fun c => ?_) (fun c60_ => ?_)
      · refine me_tsw c dL_law_45 (by decide) (by decide) (tgt := 3440) (off := 3395) (by decide) (by decide) ?_
        exact rL_c3440 i j jp h
      refine me_tableOut (tgt := 3496) dL_law_45 (mm_out60 c0_ c1_ c2_ c3_ c4_ c5_ c6_ c7_ c8_ c9_ c10_ c11_ c12_ c13_ c14_ c15_ c16_ c17_ c18_ c19_ c20_ c21_ c22_ c23_ c24_ c25_ c26_ c27_ c28_ c29_ c30_ c31_ c32_ c33_ c34_ c35_ c36_ c37_ c38_ c39_ c40_ c41_ c42_ c43_ c44_ c45_ c46_ c47_ c48_ c49_ c50_ c51_ c52_ c53_ c54_ c55_ c56_ c57_ c58_ c59_ c60_) (by decide) ?_
      exact jp h
end MMQ

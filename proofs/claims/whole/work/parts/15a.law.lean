abbrev mLw (nm : String) : ZM := (⟨RL, nm, "([I)Z"⟩, cL_law, 7, ret)
/-- the script, at the cell b, which the layer calls 999 -/
def zScr (X : ZX) (L : Nat) (xs : Nat → Int32) : Prop := match X with
  | (_, _, _, _, s, _, _, _, _, _, G) => va_X (G.2.2.1 999) L xs s s.heap ∧ G.2.2.1 999 < s.heap.size ∧ G.2.2.2 = s.heap.size
section ZLAW
variable {X : ZX} {M : ZM} {Q : State → Prop} {pc : Nat} {lv : List (Nat × Value)} {st : List Value} {h : ZH} {n cs sl d RC RS L : Nat} {xs : Nat → Int32}
theorem z_sld (C : zOk X M d RC RS) (S : zScr X L xs) {i : Nat} (D : decode M.2.1 pc = .ok (.iaload, 1)) (hi : i < L) (hL : L < 2147483648) (K : Zc X M Q (pc + 1) lv (.int (xs i) :: st) h n cs sl) : Zc X M Q pc lv (.int (nI i) :: .ref 999 :: st) h n cs sl := by
  obtain ⟨p, l, e, R, s, m, args, below, meth, c, G⟩ := X
  obtain ⟨hx, hb, hml, hown, hts, hlk, hret, hw, hdf, hdl, hrc, hrs, hnm⟩ := C
  obtain ⟨s1, s2, s3⟩ := S
  intro H ls locs hh hS hl
  have hbA : ¬ zA G (G.2.2.1 999) := by unfold zA; omega
  have e1 : (nI i).toNatClampNeg = i := nI_clamp (by omega)
  have hin : vp_in (nI i) L := vp_in_nI hi (by omega)
  have K' := K H ls locs hh hS hl
  rw [List.map_cons] at K'
  refine va_sld hx hb s1 s2 hbA hS hin D ?_
  rw [e1]
  exact K'
theorem z_slen (C : zOk X M d RC RS) (S : zScr X L xs) (D : decode M.2.1 pc = .ok (.arraylength, 1)) (K : Zc X M Q (pc + 1) lv (.int (nI L) :: st) h n cs sl) : Zc X M Q pc lv (.ref 999 :: st) h n cs sl := by
  obtain ⟨p, l, e, R, s, m, args, below, meth, c, G⟩ := X
  obtain ⟨hx, hb, hml, hown, hts, hlk, hret, hw, hdf, hdl, hrc, hrs, hnm⟩ := C
  obtain ⟨s1, s2, s3⟩ := S
  intro H ls locs hh hS hl
  have hbA : ¬ zA G (G.2.2.1 999) := by unfold zA; omega
  exact va_slen hx hb s1 s2 hbA hS D (K H ls locs hh hS hl)
theorem z_tob (C : zOk X M d RC RS) {x : Int32} (D1 : decode M.2.1 pc = .ok (.ifCond .eq 7, 3)) (D2 : decode M.2.1 (pc + 3) = .ok (.iconst 1, 1)) (D3 : decode M.2.1 (pc + 4) = .ok (.goto 4, 3)) (D4 : decode M.2.1 (pc + 7) = .ok (.iconst 0, 1)) (K : Zc X M Q (pc + 8) lv (.int (zb (decide (x ≠ 0))) :: st) h n cs sl) : Zc X M Q pc lv (.int x :: st) h n cs sl := by
  refine z_if_eq C (pc + 7) D1 (by omega) (fun hc => ?_) (fun hc => ?_)
  · refine z_iconst C D4 (zb false) (by decide) ?_
    rw [show decide (x ≠ 0) = false from decide_eq_false (fun q => q hc)] at K
    exact K
  · refine z_iconst C D2 (zb true) (by decide) ?_
    refine z_goto C (pc + 8) D3 (by omega) ?_
    rw [show decide (x ≠ 0) = true from decide_eq_true hc] at K
    exact K
end ZLAW
/-- the law's locals at the head of its loop -/
abbrev lvL (i : Nat) : List (Nat × Value) := [(0, .ref 999), (1, .ref 1000), (2, .ref 1063), (3, .ref 1078), (4, .int (nI i))]
theorem Inv.m {h : ZH} (hI : Inv h) : (∃ fs, h 1000 = some (zO 7 fs)) ∧ ∃ fs, h 1063 = some (zO 8 fs) := by
  obtain ⟨st, sl, sr, t, ds, dl, dr, dt, ic, len, un, la, tb, fa, pl, B, R, S, F, I, U, f1, f2, f3, v, b, h0, -, -, -, -, -, -, -, -, -, h10, -⟩ := hI
  exact ⟨⟨_, h0⟩, ⟨_, h10⟩⟩
theorem lg_cmp_self (x : Int64) : lg_cmp x x = 0 := by unfold lg_cmp; simp

theorem lw_c0 {X : ZX} {nm : String} {Q : State → Prop} {h : ZH} {n cs sl L i : Nat} {xs : Nat → Int32} (C : zOk X (mLw nm) 20 601024 7293034) (SX : zScr X L xs) (hL : L ≤ 3072) (hi : i + 6 ≤ L) (h1 : cs ≤ 601024) (h2 : sl ≤ 7293034) (hI : Inv h) (K : ∀ hh, Inv hh → Zc X (mLw nm) Q 2020 (lvL i) [] hh n cs sl) : Zc X (mLw nm) Q 272 (lvL i) [] h n cs sl := by
  obtain ⟨st, sl9, sr, t, ds, dl, dr, dt, ic, len, un, la, tb, fa, pl, B, R, S, F, I, U, f1, f2, f3, v, b, hI⟩ := hI
  refine z_aload_n (pc := 272) C dL_law_272 1 rfl ?_
  refine z_aload_n (pc := 273) C dL_law_273 0 rfl ?_
  refine z_iload (pc := 274) C dL_law_274 4 rfl ?_
  refine z_iconst (pc := 276) C dL_law_276 (nI 1) (by decide) ?_
  refine z_iaddN (pc := 277) C dL_law_277 ?_
  refine z_sld (pc := 278) C SX dL_law_278 (by omega) (by omega) ?_
  refine z_aload_n (pc := 279) C dL_law_279 0 rfl ?_
  refine z_iload (pc := 280) C dL_law_280 4 rfl ?_
  refine z_iconst (pc := 282) C dL_law_282 (nI 2) (by decide) ?_
  refine z_iaddN (pc := 283) C dL_law_283 ?_
  refine z_sld (pc := 284) C SX dL_law_284 (by omega) (by omega) ?_
  refine z_aload_n (pc := 285) C dL_law_285 0 rfl ?_
  refine z_iload (pc := 286) C dL_law_286 4 rfl ?_
  refine z_iconst (pc := 288) C dL_law_288 (nI 3) (by decide) ?_
  refine z_iaddN (pc := 289) C dL_law_289 ?_
  refine z_sld (pc := 290) C SX dL_law_290 (by omega) (by omega) ?_
  refine z_aload_n (pc := 291) C dL_law_291 0 rfl ?_
  refine z_iload (pc := 292) C dL_law_292 4 rfl ?_
  refine z_iconst (pc := 294) C dL_law_294 (nI 4) (by decide) ?_
  refine z_iaddN (pc := 295) C dL_law_295 ?_
  refine z_sld (pc := 296) C SX dL_law_296 (by omega) (by omega) ?_
  refine z_aload_n (pc := 297) C dL_law_297 0 rfl ?_
  refine z_iload (pc := 298) C dL_law_298 4 rfl ?_
  refine z_iconst (pc := 300) C dL_law_300 (nI 5) (by decide) ?_
  refine z_iaddN (pc := 301) C dL_law_301 ?_
  refine z_sld (pc := 302) C SX dL_law_302 (by omega) (by omega) ?_
  refine z_cV1Q (pc := 303) mX11_feed C [_, _, _, _, _] dL_law_303 lL_19 mtX11_feed (pr_feed hI) hI.1 rfl rfl (by decide) (Nat.le_of_ble_eq_true rfl) h1 h2 ?_
  rintro _ k1 ⟨⟨y, rfl⟩, ⟨fs, hf⟩, hm2⟩
  refine z_aload_n (pc := 306) C dL_law_306 2 rfl ?_
  refine z_aload_n (pc := 307) C dL_law_307 0 rfl ?_
  refine z_iload (pc := 308) C dL_law_308 4 rfl ?_
  refine z_iconst (pc := 310) C dL_law_310 (nI 1) (by decide) ?_
  refine z_iaddN (pc := 311) C dL_law_311 ?_
  refine z_sld (pc := 312) C SX dL_law_312 (by omega) (by omega) ?_
  refine z_aload_n (pc := 313) C dL_law_313 0 rfl ?_
  refine z_iload (pc := 314) C dL_law_314 4 rfl ?_
  refine z_iconst (pc := 316) C dL_law_316 (nI 2) (by decide) ?_
  refine z_iaddN (pc := 317) C dL_law_317 ?_
  refine z_sld (pc := 318) C SX dL_law_318 (by omega) (by omega) ?_
  refine z_aload_n (pc := 319) C dL_law_319 0 rfl ?_
  refine z_iload (pc := 320) C dL_law_320 4 rfl ?_
  refine z_iconst (pc := 322) C dL_law_322 (nI 3) (by decide) ?_
  refine z_iaddN (pc := 323) C dL_law_323 ?_
  refine z_sld (pc := 324) C SX dL_law_324 (by omega) (by omega) ?_
  refine z_aload_n (pc := 325) C dL_law_325 0 rfl ?_
  refine z_iload (pc := 326) C dL_law_326 4 rfl ?_
  refine z_iconst (pc := 328) C dL_law_328 (nI 4) (by decide) ?_
  refine z_iaddN (pc := 329) C dL_law_329 ?_
  refine z_sld (pc := 330) C SX dL_law_330 (by omega) (by omega) ?_
  refine z_aload_n (pc := 331) C dL_law_331 0 rfl ?_
  refine z_iload (pc := 332) C dL_law_332 4 rfl ?_
  refine z_iconst (pc := 334) C dL_law_334 (nI 5) (by decide) ?_
  refine z_iaddN (pc := 335) C dL_law_335 ?_
  refine z_sld (pc := 336) C SX dL_law_336 (by omega) (by omega) ?_
  refine z_cV1Q (pc := 337) mX12_feed C [_, _, _, _, _] dL_law_337 lL_23 mtX12_feed hm2 hf rfl rfl (by decide) (Nat.le_of_ble_eq_true rfl) h1 h2 ?_
  rintro _ k2 ⟨rfl, hI2⟩
  exact z_icmp_eq (pc := 340) C 2020 dL_law_340 (by decide) (fun _ => K k2 hI2) (fun q => absurd rfl q)

theorem lw_c1 {X : ZX} {nm : String} {Q : State → Prop} {h : ZH} {n cs sl L i : Nat} {xs : Nat → Int32} (C : zOk X (mLw nm) 20 601024 7293034) (SX : zScr X L xs) (hL : L ≤ 3072) (hi : i + 6 ≤ L) (h1 : cs ≤ 601024) (h2 : sl ≤ 7293034) (hI : Inv h) (K : ∀ hh, Inv hh → Zc X (mLw nm) Q 2020 (lvL i) [] hh n cs sl) : Zc X (mLw nm) Q 345 (lvL i) [] h n cs sl := by
  obtain ⟨st, sl9, sr, t, ds, dl, dr, dt, ic, len, un, la, tb, fa, pl, B, R, S, F, I, U, f1, f2, f3, v, b, hI⟩ := hI
  refine z_aload_n (pc := 345) C dL_law_345 1 rfl ?_
  refine z_aload_n (pc := 346) C dL_law_346 0 rfl ?_
  refine z_iload (pc := 347) C dL_law_347 4 rfl ?_
  refine z_iconst (pc := 349) C dL_law_349 (nI 1) (by decide) ?_
  refine z_iaddN (pc := 350) C dL_law_350 ?_
  refine z_sld (pc := 351) C SX dL_law_351 (by omega) (by omega) ?_
  obtain ⟨d1, hd1, pf⟩ := pr_forest (x := xs (i + 1)) hI
  refine z_cV1Q (pc := 352) mX11_forest C [_] dL_law_352 lL_24 mtX11_forest pf hI.1 rfl rfl (by omega) (Nat.le_of_ble_eq_true rfl) h1 h2 ?_
  rintro _ k1 ⟨⟨y, rfl⟩, ⟨fs, hf⟩, hm2⟩
  refine z_aload_n (pc := 355) C dL_law_355 2 rfl ?_
  refine z_aload_n (pc := 356) C dL_law_356 0 rfl ?_
  refine z_iload (pc := 357) C dL_law_357 4 rfl ?_
  refine z_iconst (pc := 359) C dL_law_359 (nI 1) (by decide) ?_
  refine z_iaddN (pc := 360) C dL_law_360 ?_
  refine z_sld (pc := 361) C SX dL_law_361 (by omega) (by omega) ?_
  refine z_cV1Q (pc := 362) mX12_forest C [_] dL_law_362 lL_27 mtX12_forest hm2 hf rfl rfl (by decide) (Nat.le_of_ble_eq_true rfl) h1 h2 ?_
  rintro _ k2 ⟨rfl, hI2⟩
  exact z_icmp_eq (pc := 365) C 2020 dL_law_365 (by decide) (fun _ => K k2 hI2) (fun q => absurd rfl q)

theorem lw_c2 {X : ZX} {nm : String} {Q : State → Prop} {h : ZH} {n cs sl L i : Nat} {xs : Nat → Int32} (C : zOk X (mLw nm) 20 601024 7293034) (SX : zScr X L xs) (hL : L ≤ 3072) (hi : i + 6 ≤ L) (h1 : cs ≤ 601024) (h2 : sl ≤ 7293034) (hI : Inv h) (K : ∀ hh, Inv hh → Zc X (mLw nm) Q 2020 (lvL i) [] hh n cs sl) : Zc X (mLw nm) Q 370 (lvL i) [] h n cs sl := by
  obtain ⟨st, sl9, sr, t, ds, dl, dr, dt, ic, len, un, la, tb, fa, pl, B, R, S, F, I, U, f1, f2, f3, v, b, hI⟩ := hI
  refine z_aload_n (pc := 370) C dL_law_370 1 rfl ?_
  refine z_cV1Q (pc := 371) mX11_fault C [] dL_law_371 lL_28 mtX11_fault (pr_fault hI) hI.1 rfl rfl (by decide) (Nat.le_of_ble_eq_true rfl) h1 h2 ?_
  rintro _ k1 ⟨⟨y, rfl⟩, ⟨fs, hf⟩, hm2⟩
  refine z_aload_n (pc := 374) C dL_law_374 2 rfl ?_
  refine z_cV1Q (pc := 375) mX12_fault C [] dL_law_375 lL_32 mtX12_fault hm2 hf rfl rfl (by decide) (Nat.le_of_ble_eq_true rfl) h1 h2 ?_
  rintro _ k2 ⟨rfl, hI2⟩
  exact z_icmp_eq (pc := 378) C 2020 dL_law_378 (by decide) (fun _ => K k2 hI2) (fun q => absurd rfl q)

theorem lw_c3 {X : ZX} {nm : String} {Q : State → Prop} {h : ZH} {n cs sl L i : Nat} {xs : Nat → Int32} (C : zOk X (mLw nm) 20 601024 7293034) (SX : zScr X L xs) (hL : L ≤ 3072) (hi : i + 6 ≤ L) (h1 : cs ≤ 601024) (h2 : sl ≤ 7293034) (hI : Inv h) (K : ∀ hh, Inv hh → Zc X (mLw nm) Q 2020 (lvL i) [] hh n cs sl) : Zc X (mLw nm) Q 383 (lvL i) [] h n cs sl := by
  obtain ⟨st, sl9, sr, t, ds, dl, dr, dt, ic, len, un, la, tb, fa, pl, B, R, S, F, I, U, f1, f2, f3, v, b, hI⟩ := hI
  refine z_aload_n (pc := 383) C dL_law_383 1 rfl ?_
  refine z_cV1Q (pc := 384) mX11_where C [] dL_law_384 lL_33 mtX11_where (pr_where hI) hI.1 rfl rfl (by decide) (Nat.le_of_ble_eq_true rfl) h1 h2 ?_
  rintro _ k1 ⟨⟨y, rfl⟩, ⟨fs, hf⟩, hm2⟩
  refine z_aload_n (pc := 387) C dL_law_387 2 rfl ?_
  refine z_cV1Q (pc := 388) mX12_where C [] dL_law_388 lL_36 mtX12_where hm2 hf rfl rfl (by decide) (Nat.le_of_ble_eq_true rfl) h1 h2 ?_
  rintro _ k2 ⟨rfl, hI2⟩
  exact z_icmp_eq (pc := 391) C 2020 dL_law_391 (by decide) (fun _ => K k2 hI2) (fun q => absurd rfl q)

theorem lw_c4 {X : ZX} {nm : String} {Q : State → Prop} {h : ZH} {n cs sl L i : Nat} {xs : Nat → Int32} (C : zOk X (mLw nm) 20 601024 7293034) (SX : zScr X L xs) (hL : L ≤ 3072) (hi : i + 6 ≤ L) (h1 : cs ≤ 601024) (h2 : sl ≤ 7293034) (hI : Inv h) (K : ∀ hh, Inv hh → Zc X (mLw nm) Q 2020 (lvL i) [] hh n cs sl) : Zc X (mLw nm) Q 396 (lvL i) [] h n cs sl := by
  obtain ⟨st, sl9, sr, t, ds, dl, dr, dt, ic, len, un, la, tb, fa, pl, B, R, S, F, I, U, f1, f2, f3, v, b, hI⟩ := hI
  refine z_aload_n (pc := 396) C dL_law_396 1 rfl ?_
  refine z_aload_n (pc := 397) C dL_law_397 0 rfl ?_
  refine z_iload (pc := 398) C dL_law_398 4 rfl ?_
  refine z_iconst (pc := 400) C dL_law_400 (nI 1) (by decide) ?_
  refine z_iaddN (pc := 401) C dL_law_401 ?_
  refine z_sld (pc := 402) C SX dL_law_402 (by omega) (by omega) ?_
  refine z_aload_n (pc := 403) C dL_law_403 0 rfl ?_
  refine z_iload (pc := 404) C dL_law_404 4 rfl ?_
  refine z_iconst (pc := 406) C dL_law_406 (nI 2) (by decide) ?_
  refine z_iaddN (pc := 407) C dL_law_407 ?_
  refine z_sld (pc := 408) C SX dL_law_408 (by omega) (by omega) ?_
  refine z_cV1Q (pc := 409) mX11_place C [_, _] dL_law_409 lL_37 mtX11_place (pr_place hI) hI.1 rfl rfl (by decide) (Nat.le_of_ble_eq_true rfl) h1 h2 ?_
  rintro _ k1 ⟨⟨y, rfl⟩, ⟨fs, hf⟩, hm2⟩
  refine z_aload_n (pc := 412) C dL_law_412 2 rfl ?_
  refine z_aload_n (pc := 413) C dL_law_413 0 rfl ?_
  refine z_iload (pc := 414) C dL_law_414 4 rfl ?_
  refine z_iconst (pc := 416) C dL_law_416 (nI 1) (by decide) ?_
  refine z_iaddN (pc := 417) C dL_law_417 ?_
  refine z_sld (pc := 418) C SX dL_law_418 (by omega) (by omega) ?_
  refine z_aload_n (pc := 419) C dL_law_419 0 rfl ?_
  refine z_iload (pc := 420) C dL_law_420 4 rfl ?_
  refine z_iconst (pc := 422) C dL_law_422 (nI 2) (by decide) ?_
  refine z_iaddN (pc := 423) C dL_law_423 ?_
  refine z_sld (pc := 424) C SX dL_law_424 (by omega) (by omega) ?_
  refine z_cV1Q (pc := 425) mX12_place C [_, _] dL_law_425 lL_41 mtX12_place hm2 hf rfl rfl (by decide) (Nat.le_of_ble_eq_true rfl) h1 h2 ?_
  rintro _ k2 ⟨rfl, hI2⟩
  exact z_icmp_eq (pc := 428) C 2020 dL_law_428 (by decide) (fun _ => K k2 hI2) (fun q => absurd rfl q)

theorem lw_c5 {X : ZX} {nm : String} {Q : State → Prop} {h : ZH} {n cs sl L i : Nat} {xs : Nat → Int32} (C : zOk X (mLw nm) 20 601024 7293034) (SX : zScr X L xs) (hL : L ≤ 3072) (hi : i + 6 ≤ L) (h1 : cs ≤ 601024) (h2 : sl ≤ 7293034) (hI : Inv h) (K : ∀ hh, Inv hh → Zc X (mLw nm) Q 2020 (lvL i) [] hh n cs sl) : Zc X (mLw nm) Q 433 (lvL i) [] h n cs sl := by
  obtain ⟨st, sl9, sr, t, ds, dl, dr, dt, ic, len, un, la, tb, fa, pl, B, R, S, F, I, U, f1, f2, f3, v, b, hI⟩ := hI
  refine z_aload_n (pc := 433) C dL_law_433 1 rfl ?_
  refine z_aload_n (pc := 434) C dL_law_434 0 rfl ?_
  refine z_iload (pc := 435) C dL_law_435 4 rfl ?_
  refine z_iconst (pc := 437) C dL_law_437 (nI 1) (by decide) ?_
  refine z_iaddN (pc := 438) C dL_law_438 ?_
  refine z_sld (pc := 439) C SX dL_law_439 (by omega) (by omega) ?_
  refine z_aload_n (pc := 440) C dL_law_440 0 rfl ?_
  refine z_iload (pc := 441) C dL_law_441 4 rfl ?_
  refine z_iconst (pc := 443) C dL_law_443 (nI 2) (by decide) ?_
  refine z_iaddN (pc := 444) C dL_law_444 ?_
  refine z_sld (pc := 445) C SX dL_law_445 (by omega) (by omega) ?_
  refine z_cV1Q (pc := 446) mX11_man C [_, _] dL_law_446 lL_42 mtX11_man (pr_man hI) hI.1 rfl rfl (by decide) (Nat.le_of_ble_eq_true rfl) h1 h2 ?_
  rintro _ k1 ⟨⟨y, rfl⟩, ⟨fs, hf⟩, hm2⟩
  refine z_aload_n (pc := 449) C dL_law_449 2 rfl ?_
  refine z_aload_n (pc := 450) C dL_law_450 0 rfl ?_
  refine z_iload (pc := 451) C dL_law_451 4 rfl ?_
  refine z_iconst (pc := 453) C dL_law_453 (nI 1) (by decide) ?_
  refine z_iaddN (pc := 454) C dL_law_454 ?_
  refine z_sld (pc := 455) C SX dL_law_455 (by omega) (by omega) ?_
  refine z_aload_n (pc := 456) C dL_law_456 0 rfl ?_
  refine z_iload (pc := 457) C dL_law_457 4 rfl ?_
  refine z_iconst (pc := 459) C dL_law_459 (nI 2) (by decide) ?_
  refine z_iaddN (pc := 460) C dL_law_460 ?_
  refine z_sld (pc := 461) C SX dL_law_461 (by omega) (by omega) ?_
  refine z_cV1Q (pc := 462) mX12_man C [_, _] dL_law_462 lL_45 mtX12_man hm2 hf rfl rfl (by decide) (Nat.le_of_ble_eq_true rfl) h1 h2 ?_
  rintro _ k2 ⟨rfl, hI2⟩
  exact z_icmp_eq (pc := 465) C 2020 dL_law_465 (by decide) (fun _ => K k2 hI2) (fun q => absurd rfl q)

theorem lw_c6 {X : ZX} {nm : String} {Q : State → Prop} {h : ZH} {n cs sl L i : Nat} {xs : Nat → Int32} (C : zOk X (mLw nm) 20 601024 7293034) (SX : zScr X L xs) (hL : L ≤ 3072) (hi : i + 6 ≤ L) (h1 : cs ≤ 601024) (h2 : sl ≤ 7293034) (hI : Inv h) (K : ∀ hh, Inv hh → Zc X (mLw nm) Q 2020 (lvL i) [] hh n cs sl) : Zc X (mLw nm) Q 470 (lvL i) [] h n cs sl := by
  obtain ⟨st, sl9, sr, t, ds, dl, dr, dt, ic, len, un, la, tb, fa, pl, B, R, S, F, I, U, f1, f2, f3, v, b, hI⟩ := hI
  refine z_aload_n (pc := 470) C dL_law_470 1 rfl ?_
  refine z_aload_n (pc := 471) C dL_law_471 0 rfl ?_
  refine z_iload (pc := 472) C dL_law_472 4 rfl ?_
  refine z_iconst (pc := 474) C dL_law_474 (nI 1) (by decide) ?_
  refine z_iaddN (pc := 475) C dL_law_475 ?_
  refine z_sld (pc := 476) C SX dL_law_476 (by omega) (by omega) ?_
  refine z_aload_n (pc := 477) C dL_law_477 0 rfl ?_
  refine z_iload (pc := 478) C dL_law_478 4 rfl ?_
  refine z_iconst (pc := 480) C dL_law_480 (nI 2) (by decide) ?_
  refine z_iaddN (pc := 481) C dL_law_481 ?_
  refine z_sld (pc := 482) C SX dL_law_482 (by omega) (by omega) ?_
  refine z_cV1Q (pc := 483) mX11_kill C [_, _] dL_law_483 lL_46 mtX11_kill (pr_kill hI) hI.1 rfl rfl (by decide) (Nat.le_of_ble_eq_true rfl) h1 h2 ?_
  rintro _ k1 ⟨⟨y, rfl⟩, ⟨fs, hf⟩, hm2⟩
  refine z_aload_n (pc := 486) C dL_law_486 2 rfl ?_
  refine z_aload_n (pc := 487) C dL_law_487 0 rfl ?_
  refine z_iload (pc := 488) C dL_law_488 4 rfl ?_
  refine z_iconst (pc := 490) C dL_law_490 (nI 1) (by decide) ?_
  refine z_iaddN (pc := 491) C dL_law_491 ?_
  refine z_sld (pc := 492) C SX dL_law_492 (by omega) (by omega) ?_
  refine z_aload_n (pc := 493) C dL_law_493 0 rfl ?_
  refine z_iload (pc := 494) C dL_law_494 4 rfl ?_
  refine z_iconst (pc := 496) C dL_law_496 (nI 2) (by decide) ?_
  refine z_iaddN (pc := 497) C dL_law_497 ?_
  refine z_sld (pc := 498) C SX dL_law_498 (by omega) (by omega) ?_
  refine z_cV1Q (pc := 499) mX12_kill C [_, _] dL_law_499 lL_49 mtX12_kill hm2 hf rfl rfl (by decide) (Nat.le_of_ble_eq_true rfl) h1 h2 ?_
  rintro _ k2 ⟨rfl, hI2⟩
  exact z_icmp_eq (pc := 502) C 2020 dL_law_502 (by decide) (fun _ => K k2 hI2) (fun q => absurd rfl q)

theorem lw_c7 {X : ZX} {nm : String} {Q : State → Prop} {h : ZH} {n cs sl L i : Nat} {xs : Nat → Int32} (C : zOk X (mLw nm) 20 601024 7293034) (SX : zScr X L xs) (hL : L ≤ 3072) (hi : i + 6 ≤ L) (h1 : cs ≤ 601024) (h2 : sl ≤ 7293034) (hI : Inv h) (K : ∀ hh, Inv hh → Zc X (mLw nm) Q 2020 (lvL i) [] hh n cs sl) : Zc X (mLw nm) Q 507 (lvL i) [] h n cs sl := by
  obtain ⟨st, sl9, sr, t, ds, dl, dr, dt, ic, len, un, la, tb, fa, pl, B, R, S, F, I, U, f1, f2, f3, v, b, hI⟩ := hI
  refine z_aload_n (pc := 507) C dL_law_507 1 rfl ?_
  refine z_aload_n (pc := 508) C dL_law_508 0 rfl ?_
  refine z_iload (pc := 509) C dL_law_509 4 rfl ?_
  refine z_iconst (pc := 511) C dL_law_511 (nI 1) (by decide) ?_
  refine z_iaddN (pc := 512) C dL_law_512 ?_
  refine z_sld (pc := 513) C SX dL_law_513 (by omega) (by omega) ?_
  refine z_aload_n (pc := 514) C dL_law_514 0 rfl ?_
  refine z_iload (pc := 515) C dL_law_515 4 rfl ?_
  refine z_iconst (pc := 517) C dL_law_517 (nI 2) (by decide) ?_
  refine z_iaddN (pc := 518) C dL_law_518 ?_
  refine z_sld (pc := 519) C SX dL_law_519 (by omega) (by omega) ?_
  refine z_cV1Q (pc := 520) mX11_trail C [_, _] dL_law_520 lL_50 mtX11_trail (pr_trail hI) hI.1 rfl rfl (by decide) (Nat.le_of_ble_eq_true rfl) h1 h2 ?_
  rintro _ k1 ⟨⟨y, rfl⟩, ⟨fs, hf⟩, hm2⟩
  refine z_aload_n (pc := 523) C dL_law_523 2 rfl ?_
  refine z_aload_n (pc := 524) C dL_law_524 0 rfl ?_
  refine z_iload (pc := 525) C dL_law_525 4 rfl ?_
  refine z_iconst (pc := 527) C dL_law_527 (nI 1) (by decide) ?_
  refine z_iaddN (pc := 528) C dL_law_528 ?_
  refine z_sld (pc := 529) C SX dL_law_529 (by omega) (by omega) ?_
  refine z_aload_n (pc := 530) C dL_law_530 0 rfl ?_
  refine z_iload (pc := 531) C dL_law_531 4 rfl ?_
  refine z_iconst (pc := 533) C dL_law_533 (nI 2) (by decide) ?_
  refine z_iaddN (pc := 534) C dL_law_534 ?_
  refine z_sld (pc := 535) C SX dL_law_535 (by omega) (by omega) ?_
  refine z_cV1Q (pc := 536) mX12_trail C [_, _] dL_law_536 lL_53 mtX12_trail hm2 hf rfl rfl (by decide) (Nat.le_of_ble_eq_true rfl) h1 h2 ?_
  rintro _ k2 ⟨rfl, hI2⟩
  exact z_icmp_eq (pc := 539) C 2020 dL_law_539 (by decide) (fun _ => K k2 hI2) (fun q => absurd rfl q)

theorem lw_c8 {X : ZX} {nm : String} {Q : State → Prop} {h : ZH} {n cs sl L i : Nat} {xs : Nat → Int32} (C : zOk X (mLw nm) 20 601024 7293034) (SX : zScr X L xs) (hL : L ≤ 3072) (hi : i + 6 ≤ L) (h1 : cs ≤ 601024) (h2 : sl ≤ 7293034) (hI : Inv h) (K : ∀ hh, Inv hh → Zc X (mLw nm) Q 2020 (lvL i) [] hh n cs sl) : Zc X (mLw nm) Q 544 (lvL i) [] h n cs sl := by
  obtain ⟨st, sl9, sr, t, ds, dl, dr, dt, ic, len, un, la, tb, fa, pl, B, R, S, F, I, U, f1, f2, f3, v, b, hI⟩ := hI
  refine z_aload_n (pc := 544) C dL_law_544 1 rfl ?_
  refine z_cV1Q (pc := 545) mX11_crowded C [] dL_law_545 lL_54 mtX11_crowded (pr_crowded hI) hI.1 rfl rfl (by decide) (Nat.le_of_ble_eq_true rfl) h1 h2 ?_
  rintro _ k1 ⟨⟨y, rfl⟩, ⟨fs, hf⟩, hm2⟩
  refine z_aload_n (pc := 548) C dL_law_548 2 rfl ?_
  refine z_cV1Q (pc := 549) mX12_crowded C [] dL_law_549 lL_57 mtX12_crowded hm2 hf rfl rfl (by decide) (Nat.le_of_ble_eq_true rfl) h1 h2 ?_
  rintro _ k2 ⟨rfl, hI2⟩
  exact z_icmp_eq (pc := 552) C 2020 dL_law_552 (by decide) (fun _ => K k2 hI2) (fun q => absurd rfl q)

theorem lw_c9 {X : ZX} {nm : String} {Q : State → Prop} {h : ZH} {n cs sl L i : Nat} {xs : Nat → Int32} (C : zOk X (mLw nm) 20 601024 7293034) (SX : zScr X L xs) (hL : L ≤ 3072) (hi : i + 6 ≤ L) (h1 : cs ≤ 601024) (h2 : sl ≤ 7293034) (hI : Inv h) (K : ∀ hh, Inv hh → Zc X (mLw nm) Q 2020 (lvL i) [] hh n cs sl) : Zc X (mLw nm) Q 557 (lvL i) [] h n cs sl := by
  obtain ⟨st, sl9, sr, t, ds, dl, dr, dt, ic, len, un, la, tb, fa, pl, B, R, S, F, I, U, f1, f2, f3, v, b, hI⟩ := hI
  refine z_aload_n (pc := 557) C dL_law_557 1 rfl ?_
  refine z_cV1Q (pc := 558) mX11_leader C [] dL_law_558 lL_58 mtX11_leader (pr_leader hI) hI.1 rfl rfl (by decide) (Nat.le_of_ble_eq_true rfl) h1 h2 ?_
  rintro _ k1 ⟨⟨y, rfl⟩, ⟨fs, hf⟩, hm2⟩
  refine z_aload_n (pc := 561) C dL_law_561 2 rfl ?_
  refine z_cV1Q (pc := 562) mX12_leader C [] dL_law_562 lL_61 mtX12_leader hm2 hf rfl rfl (by decide) (Nat.le_of_ble_eq_true rfl) h1 h2 ?_
  rintro _ k2 ⟨rfl, hI2⟩
  exact z_icmp_eq (pc := 565) C 2020 dL_law_565 (by decide) (fun _ => K k2 hI2) (fun q => absurd rfl q)

theorem lw_c10 {X : ZX} {nm : String} {Q : State → Prop} {h : ZH} {n cs sl L i : Nat} {xs : Nat → Int32} (C : zOk X (mLw nm) 20 601024 7293034) (SX : zScr X L xs) (hL : L ≤ 3072) (hi : i + 6 ≤ L) (h1 : cs ≤ 601024) (h2 : sl ≤ 7293034) (hI : Inv h) (K : ∀ hh, Inv hh → Zc X (mLw nm) Q 2020 (lvL i) [] hh n cs sl) : Zc X (mLw nm) Q 570 (lvL i) [] h n cs sl := by
  obtain ⟨st, sl9, sr, t, ds, dl, dr, dt, ic, len, un, la, tb, fa, pl, B, R, S, F, I, U, f1, f2, f3, v, b, hI⟩ := hI
  refine z_aload_n (pc := 570) C dL_law_570 1 rfl ?_
  refine z_aload_n (pc := 571) C dL_law_571 0 rfl ?_
  refine z_iload (pc := 572) C dL_law_572 4 rfl ?_
  refine z_iconst (pc := 574) C dL_law_574 (nI 1) (by decide) ?_
  refine z_iaddN (pc := 575) C dL_law_575 ?_
  refine z_sld (pc := 576) C SX dL_law_576 (by omega) (by omega) ?_
  refine z_cV1Q (pc := 577) mX11_near C [_] dL_law_577 lL_62 mtX11_near (pr_near hI) hI.1 rfl rfl (by decide) (Nat.le_of_ble_eq_true rfl) h1 h2 ?_
  rintro _ k1 ⟨⟨y, rfl⟩, ⟨fs, hf⟩, hm2⟩
  refine z_aload_n (pc := 580) C dL_law_580 2 rfl ?_
  refine z_aload_n (pc := 581) C dL_law_581 0 rfl ?_
  refine z_iload (pc := 582) C dL_law_582 4 rfl ?_
  refine z_iconst (pc := 584) C dL_law_584 (nI 1) (by decide) ?_
  refine z_iaddN (pc := 585) C dL_law_585 ?_
  refine z_sld (pc := 586) C SX dL_law_586 (by omega) (by omega) ?_
  refine z_cV1Q (pc := 587) mX12_near C [_] dL_law_587 lL_65 mtX12_near hm2 hf rfl rfl (by decide) (Nat.le_of_ble_eq_true rfl) h1 h2 ?_
  rintro _ k2 ⟨rfl, hI2⟩
  exact z_icmp_eq (pc := 590) C 2020 dL_law_590 (by decide) (fun _ => K k2 hI2) (fun q => absurd rfl q)

theorem lw_c11 {X : ZX} {nm : String} {Q : State → Prop} {h : ZH} {n cs sl L i : Nat} {xs : Nat → Int32} (C : zOk X (mLw nm) 20 601024 7293034) (SX : zScr X L xs) (hL : L ≤ 3072) (hi : i + 6 ≤ L) (h1 : cs ≤ 601024) (h2 : sl ≤ 7293034) (hI : Inv h) (K : ∀ hh, Inv hh → Zc X (mLw nm) Q 2020 (lvL i) [] hh n cs sl) : Zc X (mLw nm) Q 595 (lvL i) [] h n cs sl := by
  obtain ⟨st, sl9, sr, t, ds, dl, dr, dt, ic, len, un, la, tb, fa, pl, B, R, S, F, I, U, f1, f2, f3, v, b, hI⟩ := hI
  refine z_aload_n (pc := 595) C dL_law_595 1 rfl ?_
  refine z_cV1Q (pc := 596) mX11_room C [] dL_law_596 lL_66 mtX11_room (pr_room hI) hI.1 rfl rfl (by decide) (Nat.le_of_ble_eq_true rfl) h1 h2 ?_
  rintro _ k1 ⟨⟨y, rfl⟩, ⟨fs, hf⟩, hm2⟩
  refine z_aload_n (pc := 599) C dL_law_599 2 rfl ?_
  refine z_cV1Q (pc := 600) mX12_room C [] dL_law_600 lL_69 mtX12_room hm2 hf rfl rfl (by decide) (Nat.le_of_ble_eq_true rfl) h1 h2 ?_
  rintro _ k2 ⟨rfl, hI2⟩
  exact z_icmp_eq (pc := 603) C 2020 dL_law_603 (by decide) (fun _ => K k2 hI2) (fun q => absurd rfl q)

theorem lw_c12 {X : ZX} {nm : String} {Q : State → Prop} {h : ZH} {n cs sl L i : Nat} {xs : Nat → Int32} (C : zOk X (mLw nm) 20 601024 7293034) (SX : zScr X L xs) (hL : L ≤ 3072) (hi : i + 6 ≤ L) (h1 : cs ≤ 601024) (h2 : sl ≤ 7293034) (hI : Inv h) (K : ∀ hh, Inv hh → Zc X (mLw nm) Q 2020 (lvL i) [] hh n cs sl) : Zc X (mLw nm) Q 608 (lvL i) [] h n cs sl := by
  obtain ⟨st, sl9, sr, t, ds, dl, dr, dt, ic, len, un, la, tb, fa, pl, B, R, S, F, I, U, f1, f2, f3, v, b, hI⟩ := hI
  refine z_aload_n (pc := 608) C dL_law_608 1 rfl ?_
  refine z_aload_n (pc := 609) C dL_law_609 0 rfl ?_
  refine z_iload (pc := 610) C dL_law_610 4 rfl ?_
  refine z_iconst (pc := 612) C dL_law_612 (nI 1) (by decide) ?_
  refine z_iaddN (pc := 613) C dL_law_613 ?_
  refine z_sld (pc := 614) C SX dL_law_614 (by omega) (by omega) ?_
  refine z_aload_n (pc := 615) C dL_law_615 0 rfl ?_
  refine z_iload (pc := 616) C dL_law_616 4 rfl ?_
  refine z_iconst (pc := 618) C dL_law_618 (nI 2) (by decide) ?_
  refine z_iaddN (pc := 619) C dL_law_619 ?_
  refine z_sld (pc := 620) C SX dL_law_620 (by omega) (by omega) ?_
  refine z_cV1Q (pc := 621) mX11_apart C [_, _] dL_law_621 lL_70 mtX11_apart (pr_apart hI) hI.1 rfl rfl (by decide) (Nat.le_of_ble_eq_true rfl) h1 h2 ?_
  rintro _ k1 ⟨⟨y, rfl⟩, ⟨fs, hf⟩, hm2⟩
  refine z_aload_n (pc := 624) C dL_law_624 2 rfl ?_
  refine z_aload_n (pc := 625) C dL_law_625 0 rfl ?_
  refine z_iload (pc := 626) C dL_law_626 4 rfl ?_
  refine z_iconst (pc := 628) C dL_law_628 (nI 1) (by decide) ?_
  refine z_iaddN (pc := 629) C dL_law_629 ?_
  refine z_sld (pc := 630) C SX dL_law_630 (by omega) (by omega) ?_
  refine z_aload_n (pc := 631) C dL_law_631 0 rfl ?_
  refine z_iload (pc := 632) C dL_law_632 4 rfl ?_
  refine z_iconst (pc := 634) C dL_law_634 (nI 2) (by decide) ?_
  refine z_iaddN (pc := 635) C dL_law_635 ?_
  refine z_sld (pc := 636) C SX dL_law_636 (by omega) (by omega) ?_
  refine z_cV1Q (pc := 637) mX12_apart C [_, _] dL_law_637 lL_73 mtX12_apart hm2 hf rfl rfl (by decide) (Nat.le_of_ble_eq_true rfl) h1 h2 ?_
  rintro _ k2 ⟨rfl, hI2⟩
  exact z_icmp_eq (pc := 640) C 2020 dL_law_640 (by decide) (fun _ => K k2 hI2) (fun q => absurd rfl q)

theorem lw_c13 {X : ZX} {nm : String} {Q : State → Prop} {h : ZH} {n cs sl L i : Nat} {xs : Nat → Int32} (C : zOk X (mLw nm) 20 601024 7293034) (SX : zScr X L xs) (hL : L ≤ 3072) (hi : i + 6 ≤ L) (h1 : cs ≤ 601024) (h2 : sl ≤ 7293034) (hI : Inv h) (K : ∀ hh, Inv hh → Zc X (mLw nm) Q 2020 (lvL i) [] hh n cs sl) : Zc X (mLw nm) Q 645 (lvL i) [] h n cs sl := by
  obtain ⟨st, sl9, sr, t, ds, dl, dr, dt, ic, len, un, la, tb, fa, pl, B, R, S, F, I, U, f1, f2, f3, v, b, hI⟩ := hI
  refine z_aload_n (pc := 645) C dL_law_645 1 rfl ?_
  refine z_aload_n (pc := 646) C dL_law_646 0 rfl ?_
  refine z_iload (pc := 647) C dL_law_647 4 rfl ?_
  refine z_iconst (pc := 649) C dL_law_649 (nI 1) (by decide) ?_
  refine z_iaddN (pc := 650) C dL_law_650 ?_
  refine z_sld (pc := 651) C SX dL_law_651 (by omega) (by omega) ?_
  refine z_aload_n (pc := 652) C dL_law_652 0 rfl ?_
  refine z_iload (pc := 653) C dL_law_653 4 rfl ?_
  refine z_iconst (pc := 655) C dL_law_655 (nI 2) (by decide) ?_
  refine z_iaddN (pc := 656) C dL_law_656 ?_
  refine z_sld (pc := 657) C SX dL_law_657 (by omega) (by omega) ?_
  refine z_cV1Q (pc := 658) mX11_next C [_, _] dL_law_658 lL_74 mtX11_next (pr_next hI) hI.1 rfl rfl (by decide) (Nat.le_of_ble_eq_true rfl) h1 h2 ?_
  rintro _ k1 ⟨⟨y, rfl⟩, ⟨fs, hf⟩, hm2⟩
  refine z_aload_n (pc := 661) C dL_law_661 2 rfl ?_
  refine z_aload_n (pc := 662) C dL_law_662 0 rfl ?_
  refine z_iload (pc := 663) C dL_law_663 4 rfl ?_
  refine z_iconst (pc := 665) C dL_law_665 (nI 1) (by decide) ?_
  refine z_iaddN (pc := 666) C dL_law_666 ?_
  refine z_sld (pc := 667) C SX dL_law_667 (by omega) (by omega) ?_
  refine z_aload_n (pc := 668) C dL_law_668 0 rfl ?_
  refine z_iload (pc := 669) C dL_law_669 4 rfl ?_
  refine z_iconst (pc := 671) C dL_law_671 (nI 2) (by decide) ?_
  refine z_iaddN (pc := 672) C dL_law_672 ?_
  refine z_sld (pc := 673) C SX dL_law_673 (by omega) (by omega) ?_
  refine z_cV1Q (pc := 674) mX12_next C [_, _] dL_law_674 lL_77 mtX12_next hm2 hf rfl rfl (by decide) (Nat.le_of_ble_eq_true rfl) h1 h2 ?_
  rintro _ k2 ⟨rfl, hI2⟩
  exact z_icmp_eq (pc := 677) C 2020 dL_law_677 (by decide) (fun _ => K k2 hI2) (fun q => absurd rfl q)

theorem lw_c14 {X : ZX} {nm : String} {Q : State → Prop} {h : ZH} {n cs sl L i : Nat} {xs : Nat → Int32} (C : zOk X (mLw nm) 20 601024 7293034) (SX : zScr X L xs) (hL : L ≤ 3072) (hi : i + 6 ≤ L) (h1 : cs ≤ 601024) (h2 : sl ≤ 7293034) (hI : Inv h) (K : ∀ hh, Inv hh → Zc X (mLw nm) Q 2020 (lvL i) [] hh n cs sl) : Zc X (mLw nm) Q 682 (lvL i) [] h n cs sl := by
  obtain ⟨st, sl9, sr, t, ds, dl, dr, dt, ic, len, un, la, tb, fa, pl, B, R, S, F, I, U, f1, f2, f3, v, b, hI⟩ := hI
  refine z_aload_n (pc := 682) C dL_law_682 1 rfl ?_
  refine z_aload_n (pc := 683) C dL_law_683 0 rfl ?_
  refine z_iload (pc := 684) C dL_law_684 4 rfl ?_
  refine z_iconst (pc := 686) C dL_law_686 (nI 1) (by decide) ?_
  refine z_iaddN (pc := 687) C dL_law_687 ?_
  refine z_sld (pc := 688) C SX dL_law_688 (by omega) (by omega) ?_
  refine z_aload_n (pc := 689) C dL_law_689 0 rfl ?_
  refine z_iload (pc := 690) C dL_law_690 4 rfl ?_
  refine z_iconst (pc := 692) C dL_law_692 (nI 2) (by decide) ?_
  refine z_iaddN (pc := 693) C dL_law_693 ?_
  refine z_sld (pc := 694) C SX dL_law_694 (by omega) (by omega) ?_
  refine z_cV1Q (pc := 695) mX11_unseen C [_, _] dL_law_695 lL_78 mtX11_unseen (pr_unseen hI) hI.1 rfl rfl (by decide) (Nat.le_of_ble_eq_true rfl) h1 h2 ?_
  rintro _ k1 ⟨⟨y, rfl⟩, ⟨fs, hf⟩, hm2⟩
  refine z_aload_n (pc := 698) C dL_law_698 2 rfl ?_
  refine z_aload_n (pc := 699) C dL_law_699 0 rfl ?_
  refine z_iload (pc := 700) C dL_law_700 4 rfl ?_
  refine z_iconst (pc := 702) C dL_law_702 (nI 1) (by decide) ?_
  refine z_iaddN (pc := 703) C dL_law_703 ?_
  refine z_sld (pc := 704) C SX dL_law_704 (by omega) (by omega) ?_
  refine z_aload_n (pc := 705) C dL_law_705 0 rfl ?_
  refine z_iload (pc := 706) C dL_law_706 4 rfl ?_
  refine z_iconst (pc := 708) C dL_law_708 (nI 2) (by decide) ?_
  refine z_iaddN (pc := 709) C dL_law_709 ?_
  refine z_sld (pc := 710) C SX dL_law_710 (by omega) (by omega) ?_
  refine z_cV1Q (pc := 711) mX12_unseen C [_, _] dL_law_711 lL_81 mtX12_unseen hm2 hf rfl rfl (by decide) (Nat.le_of_ble_eq_true rfl) h1 h2 ?_
  rintro _ k2 ⟨rfl, hI2⟩
  exact z_icmp_eq (pc := 714) C 2020 dL_law_714 (by decide) (fun _ => K k2 hI2) (fun q => absurd rfl q)

theorem lw_c15 {X : ZX} {nm : String} {Q : State → Prop} {h : ZH} {n cs sl L i : Nat} {xs : Nat → Int32} (C : zOk X (mLw nm) 20 601024 7293034) (SX : zScr X L xs) (hL : L ≤ 3072) (hi : i + 6 ≤ L) (h1 : cs ≤ 601024) (h2 : sl ≤ 7293034) (hI : Inv h) (K : ∀ hh, Inv hh → Zc X (mLw nm) Q 2020 (lvL i) [] hh n cs sl) : Zc X (mLw nm) Q 719 (lvL i) [] h n cs sl := by
  obtain ⟨st, sl9, sr, t, ds, dl, dr, dt, ic, len, un, la, tb, fa, pl, B, R, S, F, I, U, f1, f2, f3, v, b, hI⟩ := hI
  refine z_aload_n (pc := 719) C dL_law_719 1 rfl ?_
  refine z_aload_n (pc := 720) C dL_law_720 0 rfl ?_
  refine z_iload (pc := 721) C dL_law_721 4 rfl ?_
  refine z_iconst (pc := 723) C dL_law_723 (nI 1) (by decide) ?_
  refine z_iaddN (pc := 724) C dL_law_724 ?_
  refine z_sld (pc := 725) C SX dL_law_725 (by omega) (by omega) ?_
  refine z_cV1Q (pc := 726) mX11_safe C [_] dL_law_726 lL_82 mtX11_safe (pr_safe hI) hI.1 rfl rfl (by decide) (Nat.le_of_ble_eq_true rfl) h1 h2 ?_
  rintro _ k1 ⟨⟨y, rfl⟩, ⟨fs, hf⟩, hm2⟩
  refine z_aload_n (pc := 729) C dL_law_729 2 rfl ?_
  refine z_aload_n (pc := 730) C dL_law_730 0 rfl ?_
  refine z_iload (pc := 731) C dL_law_731 4 rfl ?_
  refine z_iconst (pc := 733) C dL_law_733 (nI 1) (by decide) ?_
  refine z_iaddN (pc := 734) C dL_law_734 ?_
  refine z_sld (pc := 735) C SX dL_law_735 (by omega) (by omega) ?_
  refine z_cV1Q (pc := 736) mX12_safe C [_] dL_law_736 lL_85 mtX12_safe hm2 hf rfl rfl (by decide) (Nat.le_of_ble_eq_true rfl) h1 h2 ?_
  rintro _ k2 ⟨rfl, hI2⟩
  exact z_icmp_eq (pc := 739) C 2020 dL_law_739 (by decide) (fun _ => K k2 hI2) (fun q => absurd rfl q)

theorem lw_c16 {X : ZX} {nm : String} {Q : State → Prop} {h : ZH} {n cs sl L i : Nat} {xs : Nat → Int32} (C : zOk X (mLw nm) 20 601024 7293034) (SX : zScr X L xs) (hL : L ≤ 3072) (hi : i + 6 ≤ L) (h1 : cs ≤ 601024) (h2 : sl ≤ 7293034) (hI : Inv h) (K : ∀ hh, Inv hh → Zc X (mLw nm) Q 2020 (lvL i) [] hh n cs sl) : Zc X (mLw nm) Q 744 (lvL i) [] h n cs sl := by
  obtain ⟨st, sl9, sr, t, ds, dl, dr, dt, ic, len, un, la, tb, fa, pl, B, R, S, F, I, U, f1, f2, f3, v, b, hI⟩ := hI
  refine z_aload_n (pc := 744) C dL_law_744 1 rfl ?_
  refine z_aload_n (pc := 745) C dL_law_745 0 rfl ?_
  refine z_iload (pc := 746) C dL_law_746 4 rfl ?_
  refine z_iconst (pc := 748) C dL_law_748 (nI 1) (by decide) ?_
  refine z_iaddN (pc := 749) C dL_law_749 ?_
  refine z_sld (pc := 750) C SX dL_law_750 (by omega) (by omega) ?_
  refine z_aload_n (pc := 751) C dL_law_751 0 rfl ?_
  refine z_iload (pc := 752) C dL_law_752 4 rfl ?_
  refine z_iconst (pc := 754) C dL_law_754 (nI 2) (by decide) ?_
  refine z_iaddN (pc := 755) C dL_law_755 ?_
  refine z_sld (pc := 756) C SX dL_law_756 (by omega) (by omega) ?_
  refine z_cV1Q (pc := 757) mX11_cut C [_, _] dL_law_757 lL_86 mtX11_cut (pr_cut hI) hI.1 rfl rfl (by decide) (Nat.le_of_ble_eq_true rfl) h1 h2 ?_
  rintro _ k1 ⟨⟨y, rfl⟩, ⟨fs, hf⟩, hm2⟩
  refine z_aload_n (pc := 760) C dL_law_760 2 rfl ?_
  refine z_aload_n (pc := 761) C dL_law_761 0 rfl ?_
  refine z_iload (pc := 762) C dL_law_762 4 rfl ?_
  refine z_iconst (pc := 764) C dL_law_764 (nI 1) (by decide) ?_
  refine z_iaddN (pc := 765) C dL_law_765 ?_
  refine z_sld (pc := 766) C SX dL_law_766 (by omega) (by omega) ?_
  refine z_aload_n (pc := 767) C dL_law_767 0 rfl ?_
  refine z_iload (pc := 768) C dL_law_768 4 rfl ?_
  refine z_iconst (pc := 770) C dL_law_770 (nI 2) (by decide) ?_
  refine z_iaddN (pc := 771) C dL_law_771 ?_
  refine z_sld (pc := 772) C SX dL_law_772 (by omega) (by omega) ?_
  refine z_cV1Q (pc := 773) mX12_cut C [_, _] dL_law_773 lL_89 mtX12_cut hm2 hf rfl rfl (by decide) (Nat.le_of_ble_eq_true rfl) h1 h2 ?_
  rintro _ k2 ⟨rfl, hI2⟩
  exact z_icmp_eq (pc := 776) C 2020 dL_law_776 (by decide) (fun _ => K k2 hI2) (fun q => absurd rfl q)

theorem lw_c17 {X : ZX} {nm : String} {Q : State → Prop} {h : ZH} {n cs sl L i : Nat} {xs : Nat → Int32} (C : zOk X (mLw nm) 20 601024 7293034) (SX : zScr X L xs) (hL : L ≤ 3072) (hi : i + 6 ≤ L) (h1 : cs ≤ 601024) (h2 : sl ≤ 7293034) (hI : Inv h) (K : ∀ hh, Inv hh → Zc X (mLw nm) Q 2020 (lvL i) [] hh n cs sl) : Zc X (mLw nm) Q 781 (lvL i) [] h n cs sl := by
  obtain ⟨st, sl9, sr, t, ds, dl, dr, dt, ic, len, un, la, tb, fa, pl, B, R, S, F, I, U, f1, f2, f3, v, b, hI⟩ := hI
  refine z_aload_n (pc := 781) C dL_law_781 1 rfl ?_
  refine z_cV1Q (pc := 782) mX11_middle C [] dL_law_782 lL_90 mtX11_middle (pr_middle hI) hI.1 rfl rfl (by decide) (Nat.le_of_ble_eq_true rfl) h1 h2 ?_
  rintro _ k1 ⟨⟨y, rfl⟩, ⟨fs, hf⟩, hm2⟩
  refine z_aload_n (pc := 785) C dL_law_785 2 rfl ?_
  refine z_cV1Q (pc := 786) mX12_middle C [] dL_law_786 lL_93 mtX12_middle hm2 hf rfl rfl (by decide) (Nat.le_of_ble_eq_true rfl) h1 h2 ?_
  rintro _ k2 ⟨rfl, hI2⟩
  exact z_icmp_eq (pc := 789) C 2020 dL_law_789 (by decide) (fun _ => K k2 hI2) (fun q => absurd rfl q)

theorem lw_c18 {X : ZX} {nm : String} {Q : State → Prop} {h : ZH} {n cs sl L i : Nat} {xs : Nat → Int32} (C : zOk X (mLw nm) 20 601024 7293034) (SX : zScr X L xs) (hL : L ≤ 3072) (hi : i + 6 ≤ L) (h1 : cs ≤ 601024) (h2 : sl ≤ 7293034) (hI : Inv h) (K : ∀ hh, Inv hh → Zc X (mLw nm) Q 2020 (lvL i) [] hh n cs sl) : Zc X (mLw nm) Q 794 (lvL i) [] h n cs sl := by
  obtain ⟨st, sl9, sr, t, ds, dl, dr, dt, ic, len, un, la, tb, fa, pl, B, R, S, F, I, U, f1, f2, f3, v, b, hI⟩ := hI
  refine z_aload_n (pc := 794) C dL_law_794 1 rfl ?_
  refine z_cV1Q (pc := 795) mX11_parts C [] dL_law_795 lL_94 mtX11_parts (pr_parts hI) hI.1 rfl rfl (by decide) (Nat.le_of_ble_eq_true rfl) h1 h2 ?_
  rintro _ k1 ⟨⟨y, rfl⟩, ⟨fs, hf⟩, hm2⟩
  refine z_aload_n (pc := 798) C dL_law_798 2 rfl ?_
  refine z_cV1Q (pc := 799) mX12_parts C [] dL_law_799 lL_97 mtX12_parts hm2 hf rfl rfl (by decide) (Nat.le_of_ble_eq_true rfl) h1 h2 ?_
  rintro _ k2 ⟨rfl, hI2⟩
  exact z_icmp_eq (pc := 802) C 2020 dL_law_802 (by decide) (fun _ => K k2 hI2) (fun q => absurd rfl q)

theorem lw_c19 {X : ZX} {nm : String} {Q : State → Prop} {h : ZH} {n cs sl L i : Nat} {xs : Nat → Int32} (C : zOk X (mLw nm) 20 601024 7293034) (SX : zScr X L xs) (hL : L ≤ 3072) (hi : i + 6 ≤ L) (h1 : cs ≤ 601024) (h2 : sl ≤ 7293034) (hI : Inv h) (K : ∀ hh, Inv hh → Zc X (mLw nm) Q 2020 (lvL i) [] hh n cs sl) : Zc X (mLw nm) Q 807 (lvL i) [] h n cs sl := by
  obtain ⟨st, sl9, sr, t, ds, dl, dr, dt, ic, len, un, la, tb, fa, pl, B, R, S, F, I, U, f1, f2, f3, v, b, hI⟩ := hI
  refine z_aload_n (pc := 807) C dL_law_807 1 rfl ?_
  refine z_aload_n (pc := 808) C dL_law_808 0 rfl ?_
  refine z_iload (pc := 809) C dL_law_809 4 rfl ?_
  refine z_iconst (pc := 811) C dL_law_811 (nI 1) (by decide) ?_
  refine z_iaddN (pc := 812) C dL_law_812 ?_
  refine z_sld (pc := 813) C SX dL_law_813 (by omega) (by omega) ?_
  refine z_aload_n (pc := 814) C dL_law_814 0 rfl ?_
  refine z_iload (pc := 815) C dL_law_815 4 rfl ?_
  refine z_iconst (pc := 817) C dL_law_817 (nI 2) (by decide) ?_
  refine z_iaddN (pc := 818) C dL_law_818 ?_
  refine z_sld (pc := 819) C SX dL_law_819 (by omega) (by omega) ?_
  refine z_aload_n (pc := 820) C dL_law_820 0 rfl ?_
  refine z_iload (pc := 821) C dL_law_821 4 rfl ?_
  refine z_iconst (pc := 823) C dL_law_823 (nI 3) (by decide) ?_
  refine z_iaddN (pc := 824) C dL_law_824 ?_
  refine z_sld (pc := 825) C SX dL_law_825 (by omega) (by omega) ?_
  refine z_cV1Q (pc := 826) mX11_follows C [_, _, _] dL_law_826 lL_98 mtX11_follows (pr_follows hI) hI.1 rfl rfl (by decide) (Nat.le_of_ble_eq_true rfl) h1 h2 ?_
  rintro _ k1 ⟨⟨y, rfl⟩, ⟨fs, hf⟩, hm2⟩
  refine z_aload_n (pc := 829) C dL_law_829 2 rfl ?_
  refine z_aload_n (pc := 830) C dL_law_830 0 rfl ?_
  refine z_iload (pc := 831) C dL_law_831 4 rfl ?_
  refine z_iconst (pc := 833) C dL_law_833 (nI 1) (by decide) ?_
  refine z_iaddN (pc := 834) C dL_law_834 ?_
  refine z_sld (pc := 835) C SX dL_law_835 (by omega) (by omega) ?_
  refine z_aload_n (pc := 836) C dL_law_836 0 rfl ?_
  refine z_iload (pc := 837) C dL_law_837 4 rfl ?_
  refine z_iconst (pc := 839) C dL_law_839 (nI 2) (by decide) ?_
  refine z_iaddN (pc := 840) C dL_law_840 ?_
  refine z_sld (pc := 841) C SX dL_law_841 (by omega) (by omega) ?_
  refine z_aload_n (pc := 842) C dL_law_842 0 rfl ?_
  refine z_iload (pc := 843) C dL_law_843 4 rfl ?_
  refine z_iconst (pc := 845) C dL_law_845 (nI 3) (by decide) ?_
  refine z_iaddN (pc := 846) C dL_law_846 ?_
  refine z_sld (pc := 847) C SX dL_law_847 (by omega) (by omega) ?_
  refine z_cV1Q (pc := 848) mX12_follows C [_, _, _] dL_law_848 lL_102 mtX12_follows hm2 hf rfl rfl (by decide) (Nat.le_of_ble_eq_true rfl) h1 h2 ?_
  rintro _ k2 ⟨rfl, hI2⟩
  exact z_icmp_eq (pc := 851) C 2020 dL_law_851 (by decide) (fun _ => K k2 hI2) (fun q => absurd rfl q)

theorem lw_c20 {X : ZX} {nm : String} {Q : State → Prop} {h : ZH} {n cs sl L i : Nat} {xs : Nat → Int32} (C : zOk X (mLw nm) 20 601024 7293034) (SX : zScr X L xs) (hL : L ≤ 3072) (hi : i + 6 ≤ L) (h1 : cs ≤ 601024) (h2 : sl ≤ 7293034) (hI : Inv h) (K : ∀ hh, Inv hh → Zc X (mLw nm) Q 2020 (lvL i) [] hh n cs sl) : Zc X (mLw nm) Q 856 (lvL i) [] h n cs sl := by
  obtain ⟨st, sl9, sr, t, ds, dl, dr, dt, ic, len, un, la, tb, fa, pl, B, R, S, F, I, U, f1, f2, f3, v, b, hI⟩ := hI
  refine z_aload_n (pc := 856) C dL_law_856 1 rfl ?_
  refine z_aload_n (pc := 857) C dL_law_857 0 rfl ?_
  refine z_iload (pc := 858) C dL_law_858 4 rfl ?_
  refine z_iconst (pc := 860) C dL_law_860 (nI 1) (by decide) ?_
  refine z_iaddN (pc := 861) C dL_law_861 ?_
  refine z_sld (pc := 862) C SX dL_law_862 (by omega) (by omega) ?_
  refine z_aload_n (pc := 863) C dL_law_863 0 rfl ?_
  refine z_iload (pc := 864) C dL_law_864 4 rfl ?_
  refine z_iconst (pc := 866) C dL_law_866 (nI 2) (by decide) ?_
  refine z_iaddN (pc := 867) C dL_law_867 ?_
  refine z_sld (pc := 868) C SX dL_law_868 (by omega) (by omega) ?_
  refine z_cV1Q (pc := 869) mX11_lure C [_, _] dL_law_869 lL_103 mtX11_lure (pr_lure hI) hI.1 rfl rfl (by decide) (Nat.le_of_ble_eq_true rfl) h1 h2 ?_
  rintro _ k1 ⟨⟨y, rfl⟩, ⟨fs, hf⟩, hm2⟩
  refine z_aload_n (pc := 872) C dL_law_872 2 rfl ?_
  refine z_aload_n (pc := 873) C dL_law_873 0 rfl ?_
  refine z_iload (pc := 874) C dL_law_874 4 rfl ?_
  refine z_iconst (pc := 876) C dL_law_876 (nI 1) (by decide) ?_
  refine z_iaddN (pc := 877) C dL_law_877 ?_
  refine z_sld (pc := 878) C SX dL_law_878 (by omega) (by omega) ?_
  refine z_aload_n (pc := 879) C dL_law_879 0 rfl ?_
  refine z_iload (pc := 880) C dL_law_880 4 rfl ?_
  refine z_iconst (pc := 882) C dL_law_882 (nI 2) (by decide) ?_
  refine z_iaddN (pc := 883) C dL_law_883 ?_
  refine z_sld (pc := 884) C SX dL_law_884 (by omega) (by omega) ?_
  refine z_cV1Q (pc := 885) mX12_lure C [_, _] dL_law_885 lL_106 mtX12_lure hm2 hf rfl rfl (by decide) (Nat.le_of_ble_eq_true rfl) h1 h2 ?_
  rintro _ k2 ⟨rfl, hI2⟩
  exact z_icmp_eq (pc := 888) C 2020 dL_law_888 (by decide) (fun _ => K k2 hI2) (fun q => absurd rfl q)

theorem lw_c21 {X : ZX} {nm : String} {Q : State → Prop} {h : ZH} {n cs sl L i : Nat} {xs : Nat → Int32} (C : zOk X (mLw nm) 20 601024 7293034) (SX : zScr X L xs) (hL : L ≤ 3072) (hi : i + 6 ≤ L) (h1 : cs ≤ 601024) (h2 : sl ≤ 7293034) (hI : Inv h) (K : ∀ hh, Inv hh → Zc X (mLw nm) Q 2020 (lvL i) [] hh n cs sl) : Zc X (mLw nm) Q 893 (lvL i) [] h n cs sl := by
  obtain ⟨st, sl9, sr, t, ds, dl, dr, dt, ic, len, un, la, tb, fa, pl, B, R, S, F, I, U, f1, f2, f3, v, b, hI⟩ := hI
  refine z_aload_n (pc := 893) C dL_law_893 1 rfl ?_
  refine z_aload_n (pc := 894) C dL_law_894 0 rfl ?_
  refine z_iload (pc := 895) C dL_law_895 4 rfl ?_
  refine z_iconst (pc := 897) C dL_law_897 (nI 1) (by decide) ?_
  refine z_iaddN (pc := 898) C dL_law_898 ?_
  refine z_sld (pc := 899) C SX dL_law_899 (by omega) (by omega) ?_
  refine z_aload_n (pc := 900) C dL_law_900 0 rfl ?_
  refine z_iload (pc := 901) C dL_law_901 4 rfl ?_
  refine z_iconst (pc := 903) C dL_law_903 (nI 2) (by decide) ?_
  refine z_iaddN (pc := 904) C dL_law_904 ?_
  refine z_sld (pc := 905) C SX dL_law_905 (by omega) (by omega) ?_
  refine z_cV1Q (pc := 906) mX11_lureRow C [_, _] dL_law_906 lL_107 mtX11_lureRow (pr_lureRow hI) hI.1 rfl rfl (by decide) (Nat.le_of_ble_eq_true rfl) h1 h2 ?_
  rintro _ k1 ⟨⟨y, rfl⟩, ⟨fs, hf⟩, hm2⟩
  refine z_aload_n (pc := 909) C dL_law_909 2 rfl ?_
  refine z_aload_n (pc := 910) C dL_law_910 0 rfl ?_
  refine z_iload (pc := 911) C dL_law_911 4 rfl ?_
  refine z_iconst (pc := 913) C dL_law_913 (nI 1) (by decide) ?_
  refine z_iaddN (pc := 914) C dL_law_914 ?_
  refine z_sld (pc := 915) C SX dL_law_915 (by omega) (by omega) ?_
  refine z_aload_n (pc := 916) C dL_law_916 0 rfl ?_
  refine z_iload (pc := 917) C dL_law_917 4 rfl ?_
  refine z_iconst (pc := 919) C dL_law_919 (nI 2) (by decide) ?_
  refine z_iaddN (pc := 920) C dL_law_920 ?_
  refine z_sld (pc := 921) C SX dL_law_921 (by omega) (by omega) ?_
  refine z_cV1Q (pc := 922) mX12_lureRow C [_, _] dL_law_922 lL_110 mtX12_lureRow hm2 hf rfl rfl (by decide) (Nat.le_of_ble_eq_true rfl) h1 h2 ?_
  rintro _ k2 ⟨rfl, hI2⟩
  exact z_icmp_eq (pc := 925) C 2020 dL_law_925 (by decide) (fun _ => K k2 hI2) (fun q => absurd rfl q)

theorem lw_c22 {X : ZX} {nm : String} {Q : State → Prop} {h : ZH} {n cs sl L i : Nat} {xs : Nat → Int32} (C : zOk X (mLw nm) 20 601024 7293034) (SX : zScr X L xs) (hL : L ≤ 3072) (hi : i + 6 ≤ L) (h1 : cs ≤ 601024) (h2 : sl ≤ 7293034) (hI : Inv h) (K : ∀ hh, Inv hh → Zc X (mLw nm) Q 2020 (lvL i) [] hh n cs sl) : Zc X (mLw nm) Q 930 (lvL i) [] h n cs sl := by
  obtain ⟨st, sl9, sr, t, ds, dl, dr, dt, ic, len, un, la, tb, fa, pl, B, R, S, F, I, U, f1, f2, f3, v, b, hI⟩ := hI
  refine z_aload_n (pc := 930) C dL_law_930 1 rfl ?_
  refine z_aload_n (pc := 931) C dL_law_931 0 rfl ?_
  refine z_iload (pc := 932) C dL_law_932 4 rfl ?_
  refine z_iconst (pc := 934) C dL_law_934 (nI 1) (by decide) ?_
  refine z_iaddN (pc := 935) C dL_law_935 ?_
  refine z_sld (pc := 936) C SX dL_law_936 (by omega) (by omega) ?_
  refine z_aload_n (pc := 937) C dL_law_937 0 rfl ?_
  refine z_iload (pc := 938) C dL_law_938 4 rfl ?_
  refine z_iconst (pc := 940) C dL_law_940 (nI 2) (by decide) ?_
  refine z_iaddN (pc := 941) C dL_law_941 ?_
  refine z_sld (pc := 942) C SX dL_law_942 (by omega) (by omega) ?_
  refine z_cV1Q (pc := 943) mX11_lures C [_, _] dL_law_943 lL_111 mtX11_lures (pr_lures hI) hI.1 rfl rfl (by decide) (Nat.le_of_ble_eq_true rfl) h1 h2 ?_
  rintro _ k1 ⟨⟨y, rfl⟩, ⟨fs, hf⟩, hm2⟩
  refine z_aload_n (pc := 946) C dL_law_946 2 rfl ?_
  refine z_aload_n (pc := 947) C dL_law_947 0 rfl ?_
  refine z_iload (pc := 948) C dL_law_948 4 rfl ?_
  refine z_iconst (pc := 950) C dL_law_950 (nI 1) (by decide) ?_
  refine z_iaddN (pc := 951) C dL_law_951 ?_
  refine z_sld (pc := 952) C SX dL_law_952 (by omega) (by omega) ?_
  refine z_aload_n (pc := 953) C dL_law_953 0 rfl ?_
  refine z_iload (pc := 954) C dL_law_954 4 rfl ?_
  refine z_iconst (pc := 956) C dL_law_956 (nI 2) (by decide) ?_
  refine z_iaddN (pc := 957) C dL_law_957 ?_
  refine z_sld (pc := 958) C SX dL_law_958 (by omega) (by omega) ?_
  refine z_cV1Q (pc := 959) mX12_lures C [_, _] dL_law_959 lL_114 mtX12_lures hm2 hf rfl rfl (by decide) (Nat.le_of_ble_eq_true rfl) h1 h2 ?_
  rintro _ k2 ⟨rfl, hI2⟩
  exact z_icmp_eq (pc := 962) C 2020 dL_law_962 (by decide) (fun _ => K k2 hI2) (fun q => absurd rfl q)

theorem lw_c23 {X : ZX} {nm : String} {Q : State → Prop} {h : ZH} {n cs sl L i : Nat} {xs : Nat → Int32} (C : zOk X (mLw nm) 20 601024 7293034) (SX : zScr X L xs) (hL : L ≤ 3072) (hi : i + 6 ≤ L) (h1 : cs ≤ 601024) (h2 : sl ≤ 7293034) (hI : Inv h) (K : ∀ hh, Inv hh → Zc X (mLw nm) Q 2020 (lvL i) [] hh n cs sl) : Zc X (mLw nm) Q 967 (lvL i) [] h n cs sl := by
  obtain ⟨st, sl9, sr, t, ds, dl, dr, dt, ic, len, un, la, tb, fa, pl, B, R, S, F, I, U, f1, f2, f3, v, b, hI⟩ := hI
  refine z_aload_n (pc := 967) C dL_law_967 1 rfl ?_
  refine z_aload_n (pc := 968) C dL_law_968 0 rfl ?_
  refine z_iload (pc := 969) C dL_law_969 4 rfl ?_
  refine z_iconst (pc := 971) C dL_law_971 (nI 1) (by decide) ?_
  refine z_iaddN (pc := 972) C dL_law_972 ?_
  refine z_sld (pc := 973) C SX dL_law_973 (by omega) (by omega) ?_
  refine z_cV1Q (pc := 974) mX11_company C [_] dL_law_974 lL_115 mtX11_company (pr_company hI) hI.1 rfl rfl (by decide) (Nat.le_of_ble_eq_true rfl) h1 h2 ?_
  rintro _ k1 ⟨⟨y, rfl⟩, ⟨fs, hf⟩, hm2⟩
  refine z_aload_n (pc := 977) C dL_law_977 2 rfl ?_
  refine z_aload_n (pc := 978) C dL_law_978 0 rfl ?_
  refine z_iload (pc := 979) C dL_law_979 4 rfl ?_
  refine z_iconst (pc := 981) C dL_law_981 (nI 1) (by decide) ?_
  refine z_iaddN (pc := 982) C dL_law_982 ?_
  refine z_sld (pc := 983) C SX dL_law_983 (by omega) (by omega) ?_
  refine z_cV1Q (pc := 984) mX12_company C [_] dL_law_984 lL_118 mtX12_company hm2 hf rfl rfl (by decide) (Nat.le_of_ble_eq_true rfl) h1 h2 ?_
  rintro _ k2 ⟨rfl, hI2⟩
  exact z_icmp_eq (pc := 987) C 2020 dL_law_987 (by decide) (fun _ => K k2 hI2) (fun q => absurd rfl q)

theorem lw_c24 {X : ZX} {nm : String} {Q : State → Prop} {h : ZH} {n cs sl L i : Nat} {xs : Nat → Int32} (C : zOk X (mLw nm) 20 601024 7293034) (SX : zScr X L xs) (hL : L ≤ 3072) (hi : i + 6 ≤ L) (h1 : cs ≤ 601024) (h2 : sl ≤ 7293034) (hI : Inv h) (K : ∀ hh, Inv hh → Zc X (mLw nm) Q 2020 (lvL i) [] hh n cs sl) : Zc X (mLw nm) Q 992 (lvL i) [] h n cs sl := by
  obtain ⟨st, sl9, sr, t, ds, dl, dr, dt, ic, len, un, la, tb, fa, pl, B, R, S, F, I, U, f1, f2, f3, v, b, hI⟩ := hI
  refine z_aload_n (pc := 992) C dL_law_992 1 rfl ?_
  refine z_cV1Q (pc := 993) mX11_lonely C [] dL_law_993 lL_119 mtX11_lonely (pr_lonely hI) hI.1 rfl rfl (by decide) (Nat.le_of_ble_eq_true rfl) h1 h2 ?_
  rintro _ k1 ⟨⟨y, rfl⟩, ⟨fs, hf⟩, hm2⟩
  refine z_aload_n (pc := 996) C dL_law_996 2 rfl ?_
  refine z_cV1Q (pc := 997) mX12_lonely C [] dL_law_997 lL_122 mtX12_lonely hm2 hf rfl rfl (by decide) (Nat.le_of_ble_eq_true rfl) h1 h2 ?_
  rintro _ k2 ⟨rfl, hI2⟩
  exact z_icmp_eq (pc := 1000) C 2020 dL_law_1000 (by decide) (fun _ => K k2 hI2) (fun q => absurd rfl q)

theorem lw_c25 {X : ZX} {nm : String} {Q : State → Prop} {h : ZH} {n cs sl L i : Nat} {xs : Nat → Int32} (C : zOk X (mLw nm) 20 601024 7293034) (SX : zScr X L xs) (hL : L ≤ 3072) (hi : i + 6 ≤ L) (h1 : cs ≤ 601024) (h2 : sl ≤ 7293034) (hI : Inv h) (K : ∀ hh, Inv hh → Zc X (mLw nm) Q 2020 (lvL i) [] hh n cs sl) : Zc X (mLw nm) Q 1005 (lvL i) [] h n cs sl := by
  obtain ⟨st, sl9, sr, t, ds, dl, dr, dt, ic, len, un, la, tb, fa, pl, B, R, S, F, I, U, f1, f2, f3, v, b, hI⟩ := hI
  refine z_aload_n (pc := 1005) C dL_law_1005 1 rfl ?_
  refine z_aload_n (pc := 1006) C dL_law_1006 0 rfl ?_
  refine z_iload (pc := 1007) C dL_law_1007 4 rfl ?_
  refine z_iconst (pc := 1009) C dL_law_1009 (nI 1) (by decide) ?_
  refine z_iaddN (pc := 1010) C dL_law_1010 ?_
  refine z_sld (pc := 1011) C SX dL_law_1011 (by omega) (by omega) ?_
  refine z_cV1Q (pc := 1012) mX11_owes C [_] dL_law_1012 lL_123 mtX11_owes (pr_owes hI) hI.1 rfl rfl (by decide) (Nat.le_of_ble_eq_true rfl) h1 h2 ?_
  rintro _ k1 ⟨⟨y, rfl⟩, ⟨fs, hf⟩, hm2⟩
  refine z_aload_n (pc := 1015) C dL_law_1015 2 rfl ?_
  refine z_aload_n (pc := 1016) C dL_law_1016 0 rfl ?_
  refine z_iload (pc := 1017) C dL_law_1017 4 rfl ?_
  refine z_iconst (pc := 1019) C dL_law_1019 (nI 1) (by decide) ?_
  refine z_iaddN (pc := 1020) C dL_law_1020 ?_
  refine z_sld (pc := 1021) C SX dL_law_1021 (by omega) (by omega) ?_
  refine z_cV1Q (pc := 1022) mX12_owes C [_] dL_law_1022 lL_126 mtX12_owes hm2 hf rfl rfl (by decide) (Nat.le_of_ble_eq_true rfl) h1 h2 ?_
  rintro _ k2 ⟨rfl, hI2⟩
  exact z_icmp_eq (pc := 1025) C 2020 dL_law_1025 (by decide) (fun _ => K k2 hI2) (fun q => absurd rfl q)

theorem lw_c26 {X : ZX} {nm : String} {Q : State → Prop} {h : ZH} {n cs sl L i : Nat} {xs : Nat → Int32} (C : zOk X (mLw nm) 20 601024 7293034) (SX : zScr X L xs) (hL : L ≤ 3072) (hi : i + 6 ≤ L) (h1 : cs ≤ 601024) (h2 : sl ≤ 7293034) (hI : Inv h) (K : ∀ hh, Inv hh → Zc X (mLw nm) Q 2020 (lvL i) [] hh n cs sl) : Zc X (mLw nm) Q 1030 (lvL i) [] h n cs sl := by
  obtain ⟨st, sl9, sr, t, ds, dl, dr, dt, ic, len, un, la, tb, fa, pl, B, R, S, F, I, U, f1, f2, f3, v, b, hI⟩ := hI
  refine z_aload_n (pc := 1030) C dL_law_1030 1 rfl ?_
  refine z_aload_n (pc := 1031) C dL_law_1031 0 rfl ?_
  refine z_iload (pc := 1032) C dL_law_1032 4 rfl ?_
  refine z_iconst (pc := 1034) C dL_law_1034 (nI 1) (by decide) ?_
  refine z_iaddN (pc := 1035) C dL_law_1035 ?_
  refine z_sld (pc := 1036) C SX dL_law_1036 (by omega) (by omega) ?_
  refine z_cV1Q (pc := 1037) mX11_ring C [_] dL_law_1037 lL_127 mtX11_ring (pr_ring hI) hI.1 rfl rfl (by decide) (Nat.le_of_ble_eq_true rfl) h1 h2 ?_
  rintro _ k1 ⟨⟨y, rfl⟩, ⟨fs, hf⟩, hm2⟩
  refine z_aload_n (pc := 1040) C dL_law_1040 2 rfl ?_
  refine z_aload_n (pc := 1041) C dL_law_1041 0 rfl ?_
  refine z_iload (pc := 1042) C dL_law_1042 4 rfl ?_
  refine z_iconst (pc := 1044) C dL_law_1044 (nI 1) (by decide) ?_
  refine z_iaddN (pc := 1045) C dL_law_1045 ?_
  refine z_sld (pc := 1046) C SX dL_law_1046 (by omega) (by omega) ?_
  refine z_cV1Q (pc := 1047) mX12_ring C [_] dL_law_1047 lL_130 mtX12_ring hm2 hf rfl rfl (by decide) (Nat.le_of_ble_eq_true rfl) h1 h2 ?_
  rintro _ k2 ⟨rfl, hI2⟩
  exact z_icmp_eq (pc := 1050) C 2020 dL_law_1050 (by decide) (fun _ => K k2 hI2) (fun q => absurd rfl q)

theorem lw_c27 {X : ZX} {nm : String} {Q : State → Prop} {h : ZH} {n cs sl L i : Nat} {xs : Nat → Int32} (C : zOk X (mLw nm) 20 601024 7293034) (SX : zScr X L xs) (hL : L ≤ 3072) (hi : i + 6 ≤ L) (h1 : cs ≤ 601024) (h2 : sl ≤ 7293034) (hI : Inv h) (K : ∀ hh, Inv hh → Zc X (mLw nm) Q 2020 (lvL i) [] hh n cs sl) : Zc X (mLw nm) Q 1055 (lvL i) [] h n cs sl := by
  obtain ⟨st, sl9, sr, t, ds, dl, dr, dt, ic, len, un, la, tb, fa, pl, B, R, S, F, I, U, f1, f2, f3, v, b, hI⟩ := hI
  refine z_aload_n (pc := 1055) C dL_law_1055 1 rfl ?_
  refine z_aload_n (pc := 1056) C dL_law_1056 0 rfl ?_
  refine z_iload (pc := 1057) C dL_law_1057 4 rfl ?_
  refine z_iconst (pc := 1059) C dL_law_1059 (nI 1) (by decide) ?_
  refine z_iaddN (pc := 1060) C dL_law_1060 ?_
  refine z_sld (pc := 1061) C SX dL_law_1061 (by omega) (by omega) ?_
  refine z_aload_n (pc := 1062) C dL_law_1062 0 rfl ?_
  refine z_iload (pc := 1063) C dL_law_1063 4 rfl ?_
  refine z_iconst (pc := 1065) C dL_law_1065 (nI 2) (by decide) ?_
  refine z_iaddN (pc := 1066) C dL_law_1066 ?_
  refine z_sld (pc := 1067) C SX dL_law_1067 (by omega) (by omega) ?_
  refine z_cV1Q (pc := 1068) mX11_ringAt C [_, _] dL_law_1068 lL_131 mtX11_ringAt (pr_ringAt hI) hI.1 rfl rfl (by decide) (Nat.le_of_ble_eq_true rfl) h1 h2 ?_
  rintro _ k1 ⟨⟨y, rfl⟩, ⟨fs, hf⟩, hm2⟩
  refine z_aload_n (pc := 1071) C dL_law_1071 2 rfl ?_
  refine z_aload_n (pc := 1072) C dL_law_1072 0 rfl ?_
  refine z_iload (pc := 1073) C dL_law_1073 4 rfl ?_
  refine z_iconst (pc := 1075) C dL_law_1075 (nI 1) (by decide) ?_
  refine z_iaddN (pc := 1076) C dL_law_1076 ?_
  refine z_sld (pc := 1077) C SX dL_law_1077 (by omega) (by omega) ?_
  refine z_aload_n (pc := 1078) C dL_law_1078 0 rfl ?_
  refine z_iload (pc := 1079) C dL_law_1079 4 rfl ?_
  refine z_iconst (pc := 1081) C dL_law_1081 (nI 2) (by decide) ?_
  refine z_iaddN (pc := 1082) C dL_law_1082 ?_
  refine z_sld (pc := 1083) C SX dL_law_1083 (by omega) (by omega) ?_
  refine z_cV1Q (pc := 1084) mX12_ringAt C [_, _] dL_law_1084 lL_134 mtX12_ringAt hm2 hf rfl rfl (by decide) (Nat.le_of_ble_eq_true rfl) h1 h2 ?_
  rintro _ k2 ⟨rfl, hI2⟩
  exact z_icmp_eq (pc := 1087) C 2020 dL_law_1087 (by decide) (fun _ => K k2 hI2) (fun q => absurd rfl q)

theorem lw_c28 {X : ZX} {nm : String} {Q : State → Prop} {h : ZH} {n cs sl L i : Nat} {xs : Nat → Int32} (C : zOk X (mLw nm) 20 601024 7293034) (SX : zScr X L xs) (hL : L ≤ 3072) (hi : i + 6 ≤ L) (h1 : cs ≤ 601024) (h2 : sl ≤ 7293034) (hI : Inv h) (K : ∀ hh, Inv hh → Zc X (mLw nm) Q 2020 (lvL i) [] hh n cs sl) : Zc X (mLw nm) Q 1092 (lvL i) [] h n cs sl := by
  obtain ⟨st, sl9, sr, t, ds, dl, dr, dt, ic, len, un, la, tb, fa, pl, B, R, S, F, I, U, f1, f2, f3, v, b, hI⟩ := hI
  refine z_aload_n (pc := 1092) C dL_law_1092 1 rfl ?_
  refine z_cV1Q (pc := 1093) mX11_amends C [] dL_law_1093 lL_135 mtX11_amends (pr_amends hI) hI.1 rfl rfl (by decide) (Nat.le_of_ble_eq_true rfl) h1 h2 ?_
  rintro _ k1 ⟨⟨y, rfl⟩, ⟨fs, hf⟩, hm2⟩
  refine z_aload_n (pc := 1096) C dL_law_1096 2 rfl ?_
  refine z_cV1Q (pc := 1097) mX12_amends C [] dL_law_1097 lL_138 mtX12_amends hm2 hf rfl rfl (by decide) (Nat.le_of_ble_eq_true rfl) h1 h2 ?_
  rintro _ k2 ⟨rfl, hI2⟩
  exact z_icmp_eq (pc := 1100) C 2020 dL_law_1100 (by decide) (fun _ => K k2 hI2) (fun q => absurd rfl q)

theorem lw_c29 {X : ZX} {nm : String} {Q : State → Prop} {h : ZH} {n cs sl L i : Nat} {xs : Nat → Int32} (C : zOk X (mLw nm) 20 601024 7293034) (SX : zScr X L xs) (hL : L ≤ 3072) (hi : i + 6 ≤ L) (h1 : cs ≤ 601024) (h2 : sl ≤ 7293034) (hI : Inv h) (K : ∀ hh, Inv hh → Zc X (mLw nm) Q 2020 (lvL i) [] hh n cs sl) : Zc X (mLw nm) Q 1105 (lvL i) [] h n cs sl := by
  obtain ⟨st, sl9, sr, t, ds, dl, dr, dt, ic, len, un, la, tb, fa, pl, B, R, S, F, I, U, f1, f2, f3, v, b, hI⟩ := hI
  refine z_aload_n (pc := 1105) C dL_law_1105 1 rfl ?_
  refine z_cV1Q (pc := 1106) mX11_robbed C [] dL_law_1106 lL_139 mtX11_robbed (pr_robbed hI) hI.1 rfl rfl (by decide) (Nat.le_of_ble_eq_true rfl) h1 h2 ?_
  rintro _ k1 ⟨⟨y, rfl⟩, ⟨fs, hf⟩, hm2⟩
  refine z_aload_n (pc := 1109) C dL_law_1109 2 rfl ?_
  refine z_cV1Q (pc := 1110) mX12_robbed C [] dL_law_1110 lL_142 mtX12_robbed hm2 hf rfl rfl (by decide) (Nat.le_of_ble_eq_true rfl) h1 h2 ?_
  rintro _ k2 ⟨rfl, hI2⟩
  exact z_icmp_eq (pc := 1113) C 2020 dL_law_1113 (by decide) (fun _ => K k2 hI2) (fun q => absurd rfl q)

theorem lw_c30 {X : ZX} {nm : String} {Q : State → Prop} {h : ZH} {n cs sl L i : Nat} {xs : Nat → Int32} (C : zOk X (mLw nm) 20 601024 7293034) (SX : zScr X L xs) (hL : L ≤ 3072) (hi : i + 6 ≤ L) (h1 : cs ≤ 601024) (h2 : sl ≤ 7293034) (hI : Inv h) (K : ∀ hh, Inv hh → Zc X (mLw nm) Q 2020 (lvL i) [] hh n cs sl) : Zc X (mLw nm) Q 1118 (lvL i) [] h n cs sl := by
  obtain ⟨st, sl9, sr, t, ds, dl, dr, dt, ic, len, un, la, tb, fa, pl, B, R, S, F, I, U, f1, f2, f3, v, b, hI⟩ := hI
  refine z_aload_n (pc := 1118) C dL_law_1118 1 rfl ?_
  refine z_aload_n (pc := 1119) C dL_law_1119 0 rfl ?_
  refine z_iload (pc := 1120) C dL_law_1120 4 rfl ?_
  refine z_iconst (pc := 1122) C dL_law_1122 (nI 1) (by decide) ?_
  refine z_iaddN (pc := 1123) C dL_law_1123 ?_
  refine z_sld (pc := 1124) C SX dL_law_1124 (by omega) (by omega) ?_
  refine z_cV1Q (pc := 1125) mX11_fits C [_] dL_law_1125 lL_143 mtX11_fits (pr_fits hI) hI.1 rfl rfl (by decide) (Nat.le_of_ble_eq_true rfl) h1 h2 ?_
  rintro _ k1 ⟨⟨y, rfl⟩, ⟨fs, hf⟩, hm2⟩
  refine z_aload_n (pc := 1128) C dL_law_1128 2 rfl ?_
  refine z_aload_n (pc := 1129) C dL_law_1129 0 rfl ?_
  refine z_iload (pc := 1130) C dL_law_1130 4 rfl ?_
  refine z_iconst (pc := 1132) C dL_law_1132 (nI 1) (by decide) ?_
  refine z_iaddN (pc := 1133) C dL_law_1133 ?_
  refine z_sld (pc := 1134) C SX dL_law_1134 (by omega) (by omega) ?_
  refine z_cV1Q (pc := 1135) mX12_fits C [_] dL_law_1135 lL_146 mtX12_fits hm2 hf rfl rfl (by decide) (Nat.le_of_ble_eq_true rfl) h1 h2 ?_
  rintro _ k2 ⟨rfl, hI2⟩
  exact z_icmp_eq (pc := 1138) C 2020 dL_law_1138 (by decide) (fun _ => K k2 hI2) (fun q => absurd rfl q)

theorem lw_c31 {X : ZX} {nm : String} {Q : State → Prop} {h : ZH} {n cs sl L i : Nat} {xs : Nat → Int32} (C : zOk X (mLw nm) 20 601024 7293034) (SX : zScr X L xs) (hL : L ≤ 3072) (hi : i + 6 ≤ L) (h1 : cs ≤ 601024) (h2 : sl ≤ 7293034) (hI : Inv h) (K : ∀ hh, Inv hh → Zc X (mLw nm) Q 2020 (lvL i) [] hh n cs sl) : Zc X (mLw nm) Q 1143 (lvL i) [] h n cs sl := by
  obtain ⟨st, sl9, sr, t, ds, dl, dr, dt, ic, len, un, la, tb, fa, pl, B, R, S, F, I, U, f1, f2, f3, v, b, hI⟩ := hI
  refine z_aload_n (pc := 1143) C dL_law_1143 1 rfl ?_
  refine z_aload_n (pc := 1144) C dL_law_1144 0 rfl ?_
  refine z_iload (pc := 1145) C dL_law_1145 4 rfl ?_
  refine z_iconst (pc := 1147) C dL_law_1147 (nI 1) (by decide) ?_
  refine z_iaddN (pc := 1148) C dL_law_1148 ?_
  refine z_sld (pc := 1149) C SX dL_law_1149 (by omega) (by omega) ?_
  refine z_aload_n (pc := 1150) C dL_law_1150 0 rfl ?_
  refine z_iload (pc := 1151) C dL_law_1151 4 rfl ?_
  refine z_iconst (pc := 1153) C dL_law_1153 (nI 2) (by decide) ?_
  refine z_iaddN (pc := 1154) C dL_law_1154 ?_
  refine z_sld (pc := 1155) C SX dL_law_1155 (by omega) (by omega) ?_
  refine z_cV1Q (pc := 1156) mX11_fitAt C [_, _] dL_law_1156 lL_147 mtX11_fitAt (pr_fitAt hI) hI.1 rfl rfl (by decide) (Nat.le_of_ble_eq_true rfl) h1 h2 ?_
  rintro _ k1 ⟨⟨y, rfl⟩, ⟨fs, hf⟩, hm2⟩
  refine z_aload_n (pc := 1159) C dL_law_1159 2 rfl ?_
  refine z_aload_n (pc := 1160) C dL_law_1160 0 rfl ?_
  refine z_iload (pc := 1161) C dL_law_1161 4 rfl ?_
  refine z_iconst (pc := 1163) C dL_law_1163 (nI 1) (by decide) ?_
  refine z_iaddN (pc := 1164) C dL_law_1164 ?_
  refine z_sld (pc := 1165) C SX dL_law_1165 (by omega) (by omega) ?_
  refine z_aload_n (pc := 1166) C dL_law_1166 0 rfl ?_
  refine z_iload (pc := 1167) C dL_law_1167 4 rfl ?_
  refine z_iconst (pc := 1169) C dL_law_1169 (nI 2) (by decide) ?_
  refine z_iaddN (pc := 1170) C dL_law_1170 ?_
  refine z_sld (pc := 1171) C SX dL_law_1171 (by omega) (by omega) ?_
  refine z_cV1Q (pc := 1172) mX12_fitAt C [_, _] dL_law_1172 lL_150 mtX12_fitAt hm2 hf rfl rfl (by decide) (Nat.le_of_ble_eq_true rfl) h1 h2 ?_
  rintro _ k2 ⟨rfl, hI2⟩
  exact z_icmp_eq (pc := 1175) C 2020 dL_law_1175 (by decide) (fun _ => K k2 hI2) (fun q => absurd rfl q)

theorem lw_c32 {X : ZX} {nm : String} {Q : State → Prop} {h : ZH} {n cs sl L i : Nat} {xs : Nat → Int32} (C : zOk X (mLw nm) 20 601024 7293034) (SX : zScr X L xs) (hL : L ≤ 3072) (hi : i + 6 ≤ L) (h1 : cs ≤ 601024) (h2 : sl ≤ 7293034) (hI : Inv h) (K : ∀ hh, Inv hh → Zc X (mLw nm) Q 2020 (lvL i) [] hh n cs sl) : Zc X (mLw nm) Q 1180 (lvL i) [] h n cs sl := by
  obtain ⟨st, sl9, sr, t, ds, dl, dr, dt, ic, len, un, la, tb, fa, pl, B, R, S, F, I, U, f1, f2, f3, v, b, hI⟩ := hI
  refine z_aload_n (pc := 1180) C dL_law_1180 1 rfl ?_
  refine z_aload_n (pc := 1181) C dL_law_1181 0 rfl ?_
  refine z_iload (pc := 1182) C dL_law_1182 4 rfl ?_
  refine z_iconst (pc := 1184) C dL_law_1184 (nI 1) (by decide) ?_
  refine z_iaddN (pc := 1185) C dL_law_1185 ?_
  refine z_sld (pc := 1186) C SX dL_law_1186 (by omega) (by omega) ?_
  refine z_cV1Q (pc := 1187) mX11_could C [_] dL_law_1187 lL_151 mtX11_could (pr_could hI) hI.1 rfl rfl (by decide) (Nat.le_of_ble_eq_true rfl) h1 h2 ?_
  rintro _ k1 ⟨⟨y, rfl⟩, ⟨fs, hf⟩, hm2⟩
  refine z_aload_n (pc := 1190) C dL_law_1190 2 rfl ?_
  refine z_aload_n (pc := 1191) C dL_law_1191 0 rfl ?_
  refine z_iload (pc := 1192) C dL_law_1192 4 rfl ?_
  refine z_iconst (pc := 1194) C dL_law_1194 (nI 1) (by decide) ?_
  refine z_iaddN (pc := 1195) C dL_law_1195 ?_
  refine z_sld (pc := 1196) C SX dL_law_1196 (by omega) (by omega) ?_
  refine z_cV1Q (pc := 1197) mX12_could C [_] dL_law_1197 lL_154 mtX12_could hm2 hf rfl rfl (by decide) (Nat.le_of_ble_eq_true rfl) h1 h2 ?_
  rintro _ k2 ⟨rfl, hI2⟩
  exact z_icmp_eq (pc := 1200) C 2020 dL_law_1200 (by decide) (fun _ => K k2 hI2) (fun q => absurd rfl q)

theorem lw_c33 {X : ZX} {nm : String} {Q : State → Prop} {h : ZH} {n cs sl L i : Nat} {xs : Nat → Int32} (C : zOk X (mLw nm) 20 601024 7293034) (SX : zScr X L xs) (hL : L ≤ 3072) (hi : i + 6 ≤ L) (h1 : cs ≤ 601024) (h2 : sl ≤ 7293034) (hI : Inv h) (K : ∀ hh, Inv hh → Zc X (mLw nm) Q 2020 (lvL i) [] hh n cs sl) : Zc X (mLw nm) Q 1205 (lvL i) [] h n cs sl := by
  obtain ⟨st, sl9, sr, t, ds, dl, dr, dt, ic, len, un, la, tb, fa, pl, B, R, S, F, I, U, f1, f2, f3, v, b, hI⟩ := hI
  refine z_aload_n (pc := 1205) C dL_law_1205 1 rfl ?_
  refine z_aload_n (pc := 1206) C dL_law_1206 0 rfl ?_
  refine z_iload (pc := 1207) C dL_law_1207 4 rfl ?_
  refine z_iconst (pc := 1209) C dL_law_1209 (nI 1) (by decide) ?_
  refine z_iaddN (pc := 1210) C dL_law_1210 ?_
  refine z_sld (pc := 1211) C SX dL_law_1211 (by omega) (by omega) ?_
  refine z_cV1Q (pc := 1212) mX11_surely C [_] dL_law_1212 lL_155 mtX11_surely (pr_surely hI) hI.1 rfl rfl (by decide) (Nat.le_of_ble_eq_true rfl) h1 h2 ?_
  rintro _ k1 ⟨⟨y, rfl⟩, ⟨fs, hf⟩, hm2⟩
  refine z_aload_n (pc := 1215) C dL_law_1215 2 rfl ?_
  refine z_aload_n (pc := 1216) C dL_law_1216 0 rfl ?_
  refine z_iload (pc := 1217) C dL_law_1217 4 rfl ?_
  refine z_iconst (pc := 1219) C dL_law_1219 (nI 1) (by decide) ?_
  refine z_iaddN (pc := 1220) C dL_law_1220 ?_
  refine z_sld (pc := 1221) C SX dL_law_1221 (by omega) (by omega) ?_
  refine z_cV1Q (pc := 1222) mX12_surely C [_] dL_law_1222 lL_158 mtX12_surely hm2 hf rfl rfl (by decide) (Nat.le_of_ble_eq_true rfl) h1 h2 ?_
  rintro _ k2 ⟨rfl, hI2⟩
  exact z_icmp_eq (pc := 1225) C 2020 dL_law_1225 (by decide) (fun _ => K k2 hI2) (fun q => absurd rfl q)

theorem lw_c34 {X : ZX} {nm : String} {Q : State → Prop} {h : ZH} {n cs sl L i : Nat} {xs : Nat → Int32} (C : zOk X (mLw nm) 20 601024 7293034) (SX : zScr X L xs) (hL : L ≤ 3072) (hi : i + 6 ≤ L) (h1 : cs ≤ 601024) (h2 : sl ≤ 7293034) (hI : Inv h) (K : ∀ hh, Inv hh → Zc X (mLw nm) Q 2020 (lvL i) [] hh n cs sl) : Zc X (mLw nm) Q 1230 (lvL i) [] h n cs sl := by
  obtain ⟨st, sl9, sr, t, ds, dl, dr, dt, ic, len, un, la, tb, fa, pl, B, R, S, F, I, U, f1, f2, f3, v, b, hI⟩ := hI
  refine z_aload_n (pc := 1230) C dL_law_1230 1 rfl ?_
  refine z_aload_n (pc := 1231) C dL_law_1231 0 rfl ?_
  refine z_iload (pc := 1232) C dL_law_1232 4 rfl ?_
  refine z_iconst (pc := 1234) C dL_law_1234 (nI 1) (by decide) ?_
  refine z_iaddN (pc := 1235) C dL_law_1235 ?_
  refine z_sld (pc := 1236) C SX dL_law_1236 (by omega) (by omega) ?_
  refine z_cV1Q (pc := 1237) mX11_ask C [_] dL_law_1237 lL_159 mtX11_ask (pr_ask hI) hI.1 rfl rfl (by decide) (Nat.le_of_ble_eq_true rfl) h1 h2 ?_
  rintro _ k1 ⟨⟨y, rfl⟩, ⟨fs, hf⟩, hm2⟩
  refine z_aload_n (pc := 1240) C dL_law_1240 2 rfl ?_
  refine z_aload_n (pc := 1241) C dL_law_1241 0 rfl ?_
  refine z_iload (pc := 1242) C dL_law_1242 4 rfl ?_
  refine z_iconst (pc := 1244) C dL_law_1244 (nI 1) (by decide) ?_
  refine z_iaddN (pc := 1245) C dL_law_1245 ?_
  refine z_sld (pc := 1246) C SX dL_law_1246 (by omega) (by omega) ?_
  refine z_cV1Q (pc := 1247) mX12_ask C [_] dL_law_1247 lL_162 mtX12_ask hm2 hf rfl rfl (by decide) (Nat.le_of_ble_eq_true rfl) h1 h2 ?_
  rintro _ k2 ⟨rfl, hI2⟩
  exact z_icmp_eq (pc := 1250) C 2020 dL_law_1250 (by decide) (fun _ => K k2 hI2) (fun q => absurd rfl q)

theorem lw_c35 {X : ZX} {nm : String} {Q : State → Prop} {h : ZH} {n cs sl L i : Nat} {xs : Nat → Int32} (C : zOk X (mLw nm) 20 601024 7293034) (SX : zScr X L xs) (hL : L ≤ 3072) (hi : i + 6 ≤ L) (h1 : cs ≤ 601024) (h2 : sl ≤ 7293034) (hI : Inv h) (K : ∀ hh, Inv hh → Zc X (mLw nm) Q 2020 (lvL i) [] hh n cs sl) : Zc X (mLw nm) Q 1255 (lvL i) [] h n cs sl := by
  obtain ⟨st, sl9, sr, t, ds, dl, dr, dt, ic, len, un, la, tb, fa, pl, B, R, S, F, I, U, f1, f2, f3, v, b, hI⟩ := hI
  refine z_aload_n (pc := 1255) C dL_law_1255 1 rfl ?_
  refine z_aload_n (pc := 1256) C dL_law_1256 0 rfl ?_
  refine z_iload (pc := 1257) C dL_law_1257 4 rfl ?_
  refine z_iconst (pc := 1259) C dL_law_1259 (nI 1) (by decide) ?_
  refine z_iaddN (pc := 1260) C dL_law_1260 ?_
  refine z_sld (pc := 1261) C SX dL_law_1261 (by omega) (by omega) ?_
  refine z_cV1Q (pc := 1262) mX11_askLeaves C [_] dL_law_1262 lL_163 mtX11_askLeaves (pr_askLeaves hI) hI.1 rfl rfl (by decide) (Nat.le_of_ble_eq_true rfl) h1 h2 ?_
  rintro _ k1 ⟨⟨y, rfl⟩, ⟨fs, hf⟩, hm2⟩
  refine z_aload_n (pc := 1265) C dL_law_1265 2 rfl ?_
  refine z_aload_n (pc := 1266) C dL_law_1266 0 rfl ?_
  refine z_iload (pc := 1267) C dL_law_1267 4 rfl ?_
  refine z_iconst (pc := 1269) C dL_law_1269 (nI 1) (by decide) ?_
  refine z_iaddN (pc := 1270) C dL_law_1270 ?_
  refine z_sld (pc := 1271) C SX dL_law_1271 (by omega) (by omega) ?_
  refine z_cV1Q (pc := 1272) mX12_askLeaves C [_] dL_law_1272 lL_166 mtX12_askLeaves hm2 hf rfl rfl (by decide) (Nat.le_of_ble_eq_true rfl) h1 h2 ?_
  rintro _ k2 ⟨rfl, hI2⟩
  exact z_icmp_eq (pc := 1275) C 2020 dL_law_1275 (by decide) (fun _ => K k2 hI2) (fun q => absurd rfl q)

theorem lw_c36 {X : ZX} {nm : String} {Q : State → Prop} {h : ZH} {n cs sl L i : Nat} {xs : Nat → Int32} (C : zOk X (mLw nm) 20 601024 7293034) (SX : zScr X L xs) (hL : L ≤ 3072) (hi : i + 6 ≤ L) (h1 : cs ≤ 601024) (h2 : sl ≤ 7293034) (hI : Inv h) (K : ∀ hh, Inv hh → Zc X (mLw nm) Q 2020 (lvL i) [] hh n cs sl) : Zc X (mLw nm) Q 1280 (lvL i) [] h n cs sl := by
  obtain ⟨st, sl9, sr, t, ds, dl, dr, dt, ic, len, un, la, tb, fa, pl, B, R, S, F, I, U, f1, f2, f3, v, b, hI⟩ := hI
  refine z_aload_n (pc := 1280) C dL_law_1280 1 rfl ?_
  refine z_aload_n (pc := 1281) C dL_law_1281 0 rfl ?_
  refine z_iload (pc := 1282) C dL_law_1282 4 rfl ?_
  refine z_iconst (pc := 1284) C dL_law_1284 (nI 1) (by decide) ?_
  refine z_iaddN (pc := 1285) C dL_law_1285 ?_
  refine z_sld (pc := 1286) C SX dL_law_1286 (by omega) (by omega) ?_
  refine z_aload_n (pc := 1287) C dL_law_1287 0 rfl ?_
  refine z_iload (pc := 1288) C dL_law_1288 4 rfl ?_
  refine z_iconst (pc := 1290) C dL_law_1290 (nI 2) (by decide) ?_
  refine z_iaddN (pc := 1291) C dL_law_1291 ?_
  refine z_sld (pc := 1292) C SX dL_law_1292 (by omega) (by omega) ?_
  refine z_tob (pc := 1293) C dL_law_1293 dL_law_1296 dL_law_1297 dL_law_1300 ?_
  refine z_aload_n (pc := 1301) C dL_law_1301 0 rfl ?_
  refine z_iload (pc := 1302) C dL_law_1302 4 rfl ?_
  refine z_iconst (pc := 1304) C dL_law_1304 (nI 3) (by decide) ?_
  refine z_iaddN (pc := 1305) C dL_law_1305 ?_
  refine z_sld (pc := 1306) C SX dL_law_1306 (by omega) (by omega) ?_
  refine z_tob (pc := 1307) C dL_law_1307 dL_law_1310 dL_law_1311 dL_law_1314 ?_
  refine z_aload_n (pc := 1315) C dL_law_1315 0 rfl ?_
  refine z_iload (pc := 1316) C dL_law_1316 4 rfl ?_
  refine z_iconst (pc := 1318) C dL_law_1318 (nI 4) (by decide) ?_
  refine z_iaddN (pc := 1319) C dL_law_1319 ?_
  refine z_sld (pc := 1320) C SX dL_law_1320 (by omega) (by omega) ?_
  refine z_tob (pc := 1321) C dL_law_1321 dL_law_1324 dL_law_1325 dL_law_1328 ?_
  refine z_cV1Q (pc := 1329) mX11_edge C [_, _, _, _] dL_law_1329 lL_167 mtX11_edge (pr_edge hI) hI.1 rfl rfl (by decide) (Nat.le_of_ble_eq_true rfl) h1 h2 ?_
  rintro _ k1 ⟨⟨y, rfl⟩, ⟨fs, hf⟩, hm2⟩
  refine z_aload_n (pc := 1332) C dL_law_1332 2 rfl ?_
  refine z_aload_n (pc := 1333) C dL_law_1333 0 rfl ?_
  refine z_iload (pc := 1334) C dL_law_1334 4 rfl ?_
  refine z_iconst (pc := 1336) C dL_law_1336 (nI 1) (by decide) ?_
  refine z_iaddN (pc := 1337) C dL_law_1337 ?_
  refine z_sld (pc := 1338) C SX dL_law_1338 (by omega) (by omega) ?_
  refine z_aload_n (pc := 1339) C dL_law_1339 0 rfl ?_
  refine z_iload (pc := 1340) C dL_law_1340 4 rfl ?_
  refine z_iconst (pc := 1342) C dL_law_1342 (nI 2) (by decide) ?_
  refine z_iaddN (pc := 1343) C dL_law_1343 ?_
  refine z_sld (pc := 1344) C SX dL_law_1344 (by omega) (by omega) ?_
  refine z_tob (pc := 1345) C dL_law_1345 dL_law_1348 dL_law_1349 dL_law_1352 ?_
  refine z_aload_n (pc := 1353) C dL_law_1353 0 rfl ?_
  refine z_iload (pc := 1354) C dL_law_1354 4 rfl ?_
  refine z_iconst (pc := 1356) C dL_law_1356 (nI 3) (by decide) ?_
  refine z_iaddN (pc := 1357) C dL_law_1357 ?_
  refine z_sld (pc := 1358) C SX dL_law_1358 (by omega) (by omega) ?_
  refine z_tob (pc := 1359) C dL_law_1359 dL_law_1362 dL_law_1363 dL_law_1366 ?_
  refine z_aload_n (pc := 1367) C dL_law_1367 0 rfl ?_
  refine z_iload (pc := 1368) C dL_law_1368 4 rfl ?_
  refine z_iconst (pc := 1370) C dL_law_1370 (nI 4) (by decide) ?_
  refine z_iaddN (pc := 1371) C dL_law_1371 ?_
  refine z_sld (pc := 1372) C SX dL_law_1372 (by omega) (by omega) ?_
  refine z_tob (pc := 1373) C dL_law_1373 dL_law_1376 dL_law_1377 dL_law_1380 ?_
  refine z_cV1Q (pc := 1381) mX12_edge C [_, _, _, _] dL_law_1381 lL_171 mtX12_edge hm2 hf rfl rfl (by decide) (Nat.le_of_ble_eq_true rfl) h1 h2 ?_
  rintro _ k2 ⟨rfl, hI2⟩
  exact z_icmp_eq (pc := 1384) C 2020 dL_law_1384 (by decide) (fun _ => K k2 hI2) (fun q => absurd rfl q)

theorem lw_c37 {X : ZX} {nm : String} {Q : State → Prop} {h : ZH} {n cs sl L i : Nat} {xs : Nat → Int32} (C : zOk X (mLw nm) 20 601024 7293034) (SX : zScr X L xs) (hL : L ≤ 3072) (hi : i + 6 ≤ L) (h1 : cs ≤ 601024) (h2 : sl ≤ 7293034) (hI : Inv h) (K : ∀ hh, Inv hh → Zc X (mLw nm) Q 2020 (lvL i) [] hh n cs sl) : Zc X (mLw nm) Q 1389 (lvL i) [] h n cs sl := by
  obtain ⟨st, sl9, sr, t, ds, dl, dr, dt, ic, len, un, la, tb, fa, pl, B, R, S, F, I, U, f1, f2, f3, v, b, hI⟩ := hI
  refine z_aload_n (pc := 1389) C dL_law_1389 1 rfl ?_
  refine z_aload_n (pc := 1390) C dL_law_1390 0 rfl ?_
  refine z_iload (pc := 1391) C dL_law_1391 4 rfl ?_
  refine z_iconst (pc := 1393) C dL_law_1393 (nI 1) (by decide) ?_
  refine z_iaddN (pc := 1394) C dL_law_1394 ?_
  refine z_sld (pc := 1395) C SX dL_law_1395 (by omega) (by omega) ?_
  refine z_cV1Q (pc := 1396) mX11_rests C [_] dL_law_1396 lL_172 mtX11_rests (pr_rests hI) hI.1 rfl rfl (by decide) (Nat.le_of_ble_eq_true rfl) h1 h2 ?_
  rintro _ k1 ⟨⟨y, rfl⟩, ⟨fs, hf⟩, hm2⟩
  refine z_aload_n (pc := 1399) C dL_law_1399 2 rfl ?_
  refine z_aload_n (pc := 1400) C dL_law_1400 0 rfl ?_
  refine z_iload (pc := 1401) C dL_law_1401 4 rfl ?_
  refine z_iconst (pc := 1403) C dL_law_1403 (nI 1) (by decide) ?_
  refine z_iaddN (pc := 1404) C dL_law_1404 ?_
  refine z_sld (pc := 1405) C SX dL_law_1405 (by omega) (by omega) ?_
  refine z_cV1Q (pc := 1406) mX12_rests C [_] dL_law_1406 lL_175 mtX12_rests hm2 hf rfl rfl (by decide) (Nat.le_of_ble_eq_true rfl) h1 h2 ?_
  rintro _ k2 ⟨rfl, hI2⟩
  exact z_icmp_eq (pc := 1409) C 2020 dL_law_1409 (by decide) (fun _ => K k2 hI2) (fun q => absurd rfl q)

theorem lw_c38 {X : ZX} {nm : String} {Q : State → Prop} {h : ZH} {n cs sl L i : Nat} {xs : Nat → Int32} (C : zOk X (mLw nm) 20 601024 7293034) (SX : zScr X L xs) (hL : L ≤ 3072) (hi : i + 6 ≤ L) (h1 : cs ≤ 601024) (h2 : sl ≤ 7293034) (hI : Inv h) (K : ∀ hh, Inv hh → Zc X (mLw nm) Q 2020 (lvL i) [] hh n cs sl) : Zc X (mLw nm) Q 1414 (lvL i) [] h n cs sl := by
  obtain ⟨st, sl9, sr, t, ds, dl, dr, dt, ic, len, un, la, tb, fa, pl, B, R, S, F, I, U, f1, f2, f3, v, b, hI⟩ := hI
  refine z_aload_n (pc := 1414) C dL_law_1414 1 rfl ?_
  refine z_aload_n (pc := 1415) C dL_law_1415 0 rfl ?_
  refine z_iload (pc := 1416) C dL_law_1416 4 rfl ?_
  refine z_iconst (pc := 1418) C dL_law_1418 (nI 1) (by decide) ?_
  refine z_iaddN (pc := 1419) C dL_law_1419 ?_
  refine z_sld (pc := 1420) C SX dL_law_1420 (by omega) (by omega) ?_
  refine z_cV1Q (pc := 1421) mX11_rest C [_] dL_law_1421 lL_176 mtX11_rest (pr_rest hI) hI.1 rfl rfl (by decide) (Nat.le_of_ble_eq_true rfl) h1 h2 ?_
  rintro _ k1 ⟨⟨y, rfl⟩, ⟨fs, hf⟩, hm2⟩
  refine z_aload_n (pc := 1424) C dL_law_1424 2 rfl ?_
  refine z_aload_n (pc := 1425) C dL_law_1425 0 rfl ?_
  refine z_iload (pc := 1426) C dL_law_1426 4 rfl ?_
  refine z_iconst (pc := 1428) C dL_law_1428 (nI 1) (by decide) ?_
  refine z_iaddN (pc := 1429) C dL_law_1429 ?_
  refine z_sld (pc := 1430) C SX dL_law_1430 (by omega) (by omega) ?_
  refine z_cV1Q (pc := 1431) mX12_rest C [_] dL_law_1431 lL_179 mtX12_rest hm2 hf rfl rfl (by decide) (Nat.le_of_ble_eq_true rfl) h1 h2 ?_
  rintro _ k2 ⟨rfl, hI2⟩
  exact z_icmp_eq (pc := 1434) C 2020 dL_law_1434 (by decide) (fun _ => K k2 hI2) (fun q => absurd rfl q)

theorem lw_c39 {X : ZX} {nm : String} {Q : State → Prop} {h : ZH} {n cs sl L i : Nat} {xs : Nat → Int32} (C : zOk X (mLw nm) 20 601024 7293034) (SX : zScr X L xs) (hL : L ≤ 3072) (hi : i + 6 ≤ L) (h1 : cs ≤ 601024) (h2 : sl ≤ 7293034) (hI : Inv h) (K : ∀ hh, Inv hh → Zc X (mLw nm) Q 2020 (lvL i) [] hh n cs sl) : Zc X (mLw nm) Q 1439 (lvL i) [] h n cs sl := by
  obtain ⟨st, sl9, sr, t, ds, dl, dr, dt, ic, len, un, la, tb, fa, pl, B, R, S, F, I, U, f1, f2, f3, v, b, hI⟩ := hI
  refine z_aload_n (pc := 1439) C dL_law_1439 1 rfl ?_
  refine z_aload_n (pc := 1440) C dL_law_1440 0 rfl ?_
  refine z_iload (pc := 1441) C dL_law_1441 4 rfl ?_
  refine z_iconst (pc := 1443) C dL_law_1443 (nI 1) (by decide) ?_
  refine z_iaddN (pc := 1444) C dL_law_1444 ?_
  refine z_sld (pc := 1445) C SX dL_law_1445 (by omega) (by omega) ?_
  refine z_aload_n (pc := 1446) C dL_law_1446 0 rfl ?_
  refine z_iload (pc := 1447) C dL_law_1447 4 rfl ?_
  refine z_iconst (pc := 1449) C dL_law_1449 (nI 2) (by decide) ?_
  refine z_iaddN (pc := 1450) C dL_law_1450 ?_
  refine z_sld (pc := 1451) C SX dL_law_1451 (by omega) (by omega) ?_
  refine z_aload_n (pc := 1452) C dL_law_1452 0 rfl ?_
  refine z_iload (pc := 1453) C dL_law_1453 4 rfl ?_
  refine z_iconst (pc := 1455) C dL_law_1455 (nI 3) (by decide) ?_
  refine z_iaddN (pc := 1456) C dL_law_1456 ?_
  refine z_sld (pc := 1457) C SX dL_law_1457 (by omega) (by omega) ?_
  refine z_tob (pc := 1458) C dL_law_1458 dL_law_1461 dL_law_1462 dL_law_1465 ?_
  refine z_cV1Q (pc := 1466) mX11_breathes C [_, _, _] dL_law_1466 lL_180 mtX11_breathes (pr_breathes hI) hI.1 rfl rfl (by decide) (Nat.le_of_ble_eq_true rfl) h1 h2 ?_
  rintro _ k1 ⟨⟨y, rfl⟩, ⟨fs, hf⟩, hm2⟩
  refine z_aload_n (pc := 1469) C dL_law_1469 2 rfl ?_
  refine z_aload_n (pc := 1470) C dL_law_1470 0 rfl ?_
  refine z_iload (pc := 1471) C dL_law_1471 4 rfl ?_
  refine z_iconst (pc := 1473) C dL_law_1473 (nI 1) (by decide) ?_
  refine z_iaddN (pc := 1474) C dL_law_1474 ?_
  refine z_sld (pc := 1475) C SX dL_law_1475 (by omega) (by omega) ?_
  refine z_aload_n (pc := 1476) C dL_law_1476 0 rfl ?_
  refine z_iload (pc := 1477) C dL_law_1477 4 rfl ?_
  refine z_iconst (pc := 1479) C dL_law_1479 (nI 2) (by decide) ?_
  refine z_iaddN (pc := 1480) C dL_law_1480 ?_
  refine z_sld (pc := 1481) C SX dL_law_1481 (by omega) (by omega) ?_
  refine z_aload_n (pc := 1482) C dL_law_1482 0 rfl ?_
  refine z_iload (pc := 1483) C dL_law_1483 4 rfl ?_
  refine z_iconst (pc := 1485) C dL_law_1485 (nI 3) (by decide) ?_
  refine z_iaddN (pc := 1486) C dL_law_1486 ?_
  refine z_sld (pc := 1487) C SX dL_law_1487 (by omega) (by omega) ?_
  refine z_tob (pc := 1488) C dL_law_1488 dL_law_1491 dL_law_1492 dL_law_1495 ?_
  refine z_cV1Q (pc := 1496) mX12_breathes C [_, _, _] dL_law_1496 lL_184 mtX12_breathes hm2 hf rfl rfl (by decide) (Nat.le_of_ble_eq_true rfl) h1 h2 ?_
  rintro _ k2 ⟨rfl, hI2⟩
  refine z_lcmp (pc := 1499) C dL_law_1499 ?_
  refine z_top (lg_cmp_self _) ?_
  exact z_if_eq (pc := 1500) C 2020 dL_law_1500 (by decide) (fun _ => K k2 hI2) (fun q => absurd rfl q)

theorem lw_c40 {X : ZX} {nm : String} {Q : State → Prop} {h : ZH} {n cs sl L i : Nat} {xs : Nat → Int32} (C : zOk X (mLw nm) 20 601024 7293034) (SX : zScr X L xs) (hL : L ≤ 3072) (hi : i + 6 ≤ L) (h1 : cs ≤ 601024) (h2 : sl ≤ 7293034) (hI : Inv h) (K : ∀ hh, Inv hh → Zc X (mLw nm) Q 2020 (lvL i) [] hh n cs sl) : Zc X (mLw nm) Q 1505 (lvL i) [] h n cs sl := by
  obtain ⟨st, sl9, sr, t, ds, dl, dr, dt, ic, len, un, la, tb, fa, pl, B, R, S, F, I, U, f1, f2, f3, v, b, hI⟩ := hI
  refine z_aload_n (pc := 1505) C dL_law_1505 1 rfl ?_
  refine z_aload_n (pc := 1506) C dL_law_1506 0 rfl ?_
  refine z_iload (pc := 1507) C dL_law_1507 4 rfl ?_
  refine z_iconst (pc := 1509) C dL_law_1509 (nI 1) (by decide) ?_
  refine z_iaddN (pc := 1510) C dL_law_1510 ?_
  refine z_sld (pc := 1511) C SX dL_law_1511 (by omega) (by omega) ?_
  refine z_aload_n (pc := 1512) C dL_law_1512 0 rfl ?_
  refine z_iload (pc := 1513) C dL_law_1513 4 rfl ?_
  refine z_iconst (pc := 1515) C dL_law_1515 (nI 2) (by decide) ?_
  refine z_iaddN (pc := 1516) C dL_law_1516 ?_
  refine z_sld (pc := 1517) C SX dL_law_1517 (by omega) (by omega) ?_
  refine z_tob (pc := 1518) C dL_law_1518 dL_law_1521 dL_law_1522 dL_law_1525 ?_
  refine z_cV1Q (pc := 1526) mX11_silent C [_, _] dL_law_1526 lL_185 mtX11_silent (pr_silent hI) hI.1 rfl rfl (by decide) (Nat.le_of_ble_eq_true rfl) h1 h2 ?_
  rintro _ k1 ⟨⟨y, rfl⟩, ⟨fs, hf⟩, hm2⟩
  refine z_aload_n (pc := 1529) C dL_law_1529 2 rfl ?_
  refine z_aload_n (pc := 1530) C dL_law_1530 0 rfl ?_
  refine z_iload (pc := 1531) C dL_law_1531 4 rfl ?_
  refine z_iconst (pc := 1533) C dL_law_1533 (nI 1) (by decide) ?_
  refine z_iaddN (pc := 1534) C dL_law_1534 ?_
  refine z_sld (pc := 1535) C SX dL_law_1535 (by omega) (by omega) ?_
  refine z_aload_n (pc := 1536) C dL_law_1536 0 rfl ?_
  refine z_iload (pc := 1537) C dL_law_1537 4 rfl ?_
  refine z_iconst (pc := 1539) C dL_law_1539 (nI 2) (by decide) ?_
  refine z_iaddN (pc := 1540) C dL_law_1540 ?_
  refine z_sld (pc := 1541) C SX dL_law_1541 (by omega) (by omega) ?_
  refine z_tob (pc := 1542) C dL_law_1542 dL_law_1545 dL_law_1546 dL_law_1549 ?_
  refine z_cV1Q (pc := 1550) mX12_silent C [_, _] dL_law_1550 lL_189 mtX12_silent hm2 hf rfl rfl (by decide) (Nat.le_of_ble_eq_true rfl) h1 h2 ?_
  rintro _ k2 ⟨rfl, hI2⟩
  refine z_lcmp (pc := 1553) C dL_law_1553 ?_
  refine z_top (lg_cmp_self _) ?_
  exact z_if_eq (pc := 1554) C 2020 dL_law_1554 (by decide) (fun _ => K k2 hI2) (fun q => absurd rfl q)

theorem lw_c41 {X : ZX} {nm : String} {Q : State → Prop} {h : ZH} {n cs sl L i : Nat} {xs : Nat → Int32} (C : zOk X (mLw nm) 20 601024 7293034) (SX : zScr X L xs) (hL : L ≤ 3072) (hi : i + 6 ≤ L) (h1 : cs ≤ 601024) (h2 : sl ≤ 7293034) (hI : Inv h) (K : ∀ hh, Inv hh → Zc X (mLw nm) Q 2020 (lvL i) [] hh n cs sl) : Zc X (mLw nm) Q 1559 (lvL i) [] h n cs sl := by
  obtain ⟨st, sl9, sr, t, ds, dl, dr, dt, ic, len, un, la, tb, fa, pl, B, R, S, F, I, U, f1, f2, f3, v, b, hI⟩ := hI
  refine z_aload_n (pc := 1559) C dL_law_1559 1 rfl ?_
  refine z_aload_n (pc := 1560) C dL_law_1560 0 rfl ?_
  refine z_iload (pc := 1561) C dL_law_1561 4 rfl ?_
  refine z_iconst (pc := 1563) C dL_law_1563 (nI 1) (by decide) ?_
  refine z_iaddN (pc := 1564) C dL_law_1564 ?_
  refine z_sld (pc := 1565) C SX dL_law_1565 (by omega) (by omega) ?_
  refine z_aload_n (pc := 1566) C dL_law_1566 0 rfl ?_
  refine z_iload (pc := 1567) C dL_law_1567 4 rfl ?_
  refine z_iconst (pc := 1569) C dL_law_1569 (nI 2) (by decide) ?_
  refine z_iaddN (pc := 1570) C dL_law_1570 ?_
  refine z_sld (pc := 1571) C SX dL_law_1571 (by omega) (by omega) ?_
  refine z_tob (pc := 1572) C dL_law_1572 dL_law_1575 dL_law_1576 dL_law_1579 ?_
  refine z_cV1Q (pc := 1580) mX11_mean C [_, _] dL_law_1580 lL_190 mtX11_mean (pr_mean hI) hI.1 rfl rfl (by decide) (Nat.le_of_ble_eq_true rfl) h1 h2 ?_
  rintro _ k1 ⟨⟨y, rfl⟩, ⟨fs, hf⟩, hm2⟩
  refine z_aload_n (pc := 1583) C dL_law_1583 2 rfl ?_
  refine z_aload_n (pc := 1584) C dL_law_1584 0 rfl ?_
  refine z_iload (pc := 1585) C dL_law_1585 4 rfl ?_
  refine z_iconst (pc := 1587) C dL_law_1587 (nI 1) (by decide) ?_
  refine z_iaddN (pc := 1588) C dL_law_1588 ?_
  refine z_sld (pc := 1589) C SX dL_law_1589 (by omega) (by omega) ?_
  refine z_aload_n (pc := 1590) C dL_law_1590 0 rfl ?_
  refine z_iload (pc := 1591) C dL_law_1591 4 rfl ?_
  refine z_iconst (pc := 1593) C dL_law_1593 (nI 2) (by decide) ?_
  refine z_iaddN (pc := 1594) C dL_law_1594 ?_
  refine z_sld (pc := 1595) C SX dL_law_1595 (by omega) (by omega) ?_
  refine z_tob (pc := 1596) C dL_law_1596 dL_law_1599 dL_law_1600 dL_law_1603 ?_
  refine z_cV1Q (pc := 1604) mX12_mean C [_, _] dL_law_1604 lL_193 mtX12_mean hm2 hf rfl rfl (by decide) (Nat.le_of_ble_eq_true rfl) h1 h2 ?_
  rintro _ k2 ⟨rfl, hI2⟩
  refine z_lcmp (pc := 1607) C dL_law_1607 ?_
  refine z_top (lg_cmp_self _) ?_
  exact z_if_eq (pc := 1608) C 2020 dL_law_1608 (by decide) (fun _ => K k2 hI2) (fun q => absurd rfl q)

theorem lw_c42 {X : ZX} {nm : String} {Q : State → Prop} {h : ZH} {n cs sl L i : Nat} {xs : Nat → Int32} (C : zOk X (mLw nm) 20 601024 7293034) (SX : zScr X L xs) (hL : L ≤ 3072) (hi : i + 6 ≤ L) (h1 : cs ≤ 601024) (h2 : sl ≤ 7293034) (hI : Inv h) (K : ∀ hh, Inv hh → Zc X (mLw nm) Q 2020 (lvL i) [] hh n cs sl) : Zc X (mLw nm) Q 1613 (lvL i) [] h n cs sl := by
  obtain ⟨st, sl9, sr, t, ds, dl, dr, dt, ic, len, un, la, tb, fa, pl, B, R, S, F, I, U, f1, f2, f3, v, b, hI⟩ := hI
  refine z_aload_n (pc := 1613) C dL_law_1613 1 rfl ?_
  refine z_aload_n (pc := 1614) C dL_law_1614 0 rfl ?_
  refine z_iload (pc := 1615) C dL_law_1615 4 rfl ?_
  refine z_iconst (pc := 1617) C dL_law_1617 (nI 1) (by decide) ?_
  refine z_iaddN (pc := 1618) C dL_law_1618 ?_
  refine z_sld (pc := 1619) C SX dL_law_1619 (by omega) (by omega) ?_
  refine z_aload_n (pc := 1620) C dL_law_1620 0 rfl ?_
  refine z_iload (pc := 1621) C dL_law_1621 4 rfl ?_
  refine z_iconst (pc := 1623) C dL_law_1623 (nI 2) (by decide) ?_
  refine z_iaddN (pc := 1624) C dL_law_1624 ?_
  refine z_sld (pc := 1625) C SX dL_law_1625 (by omega) (by omega) ?_
  refine z_aload_n (pc := 1626) C dL_law_1626 0 rfl ?_
  refine z_iload (pc := 1627) C dL_law_1627 4 rfl ?_
  refine z_iconst (pc := 1629) C dL_law_1629 (nI 3) (by decide) ?_
  refine z_iaddN (pc := 1630) C dL_law_1630 ?_
  refine z_sld (pc := 1631) C SX dL_law_1631 (by omega) (by omega) ?_
  refine z_cV1Q (pc := 1632) mX11_rambles C [_, _, _] dL_law_1632 lL_194 mtX11_rambles (pr_rambles hI) hI.1 rfl rfl (by decide) (Nat.le_of_ble_eq_true rfl) h1 h2 ?_
  rintro _ k1 ⟨⟨y, rfl⟩, ⟨fs, hf⟩, hm2⟩
  refine z_aload_n (pc := 1635) C dL_law_1635 2 rfl ?_
  refine z_aload_n (pc := 1636) C dL_law_1636 0 rfl ?_
  refine z_iload (pc := 1637) C dL_law_1637 4 rfl ?_
  refine z_iconst (pc := 1639) C dL_law_1639 (nI 1) (by decide) ?_
  refine z_iaddN (pc := 1640) C dL_law_1640 ?_
  refine z_sld (pc := 1641) C SX dL_law_1641 (by omega) (by omega) ?_
  refine z_aload_n (pc := 1642) C dL_law_1642 0 rfl ?_
  refine z_iload (pc := 1643) C dL_law_1643 4 rfl ?_
  refine z_iconst (pc := 1645) C dL_law_1645 (nI 2) (by decide) ?_
  refine z_iaddN (pc := 1646) C dL_law_1646 ?_
  refine z_sld (pc := 1647) C SX dL_law_1647 (by omega) (by omega) ?_
  refine z_aload_n (pc := 1648) C dL_law_1648 0 rfl ?_
  refine z_iload (pc := 1649) C dL_law_1649 4 rfl ?_
  refine z_iconst (pc := 1651) C dL_law_1651 (nI 3) (by decide) ?_
  refine z_iaddN (pc := 1652) C dL_law_1652 ?_
  refine z_sld (pc := 1653) C SX dL_law_1653 (by omega) (by omega) ?_
  refine z_cV1Q (pc := 1654) mX12_rambles C [_, _, _] dL_law_1654 lL_197 mtX12_rambles hm2 hf rfl rfl (by decide) (Nat.le_of_ble_eq_true rfl) h1 h2 ?_
  rintro _ k2 ⟨rfl, hI2⟩
  exact z_icmp_eq (pc := 1657) C 2020 dL_law_1657 (by decide) (fun _ => K k2 hI2) (fun q => absurd rfl q)

theorem lw_c43 {X : ZX} {nm : String} {Q : State → Prop} {h : ZH} {n cs sl L i : Nat} {xs : Nat → Int32} (C : zOk X (mLw nm) 20 601024 7293034) (SX : zScr X L xs) (hL : L ≤ 3072) (hi : i + 6 ≤ L) (h1 : cs ≤ 601024) (h2 : sl ≤ 7293034) (hI : Inv h) (K : ∀ hh, Inv hh → Zc X (mLw nm) Q 2020 (lvL i) [] hh n cs sl) : Zc X (mLw nm) Q 1662 (lvL i) [] h n cs sl := by
  obtain ⟨st, sl9, sr, t, ds, dl, dr, dt, ic, len, un, la, tb, fa, pl, B, R, S, F, I, U, f1, f2, f3, v, b, hI⟩ := hI
  refine z_aload_n (pc := 1662) C dL_law_1662 1 rfl ?_
  refine z_aload_n (pc := 1663) C dL_law_1663 0 rfl ?_
  refine z_iload (pc := 1664) C dL_law_1664 4 rfl ?_
  refine z_iconst (pc := 1666) C dL_law_1666 (nI 1) (by decide) ?_
  refine z_iaddN (pc := 1667) C dL_law_1667 ?_
  refine z_sld (pc := 1668) C SX dL_law_1668 (by omega) (by omega) ?_
  refine z_aload_n (pc := 1669) C dL_law_1669 0 rfl ?_
  refine z_iload (pc := 1670) C dL_law_1670 4 rfl ?_
  refine z_iconst (pc := 1672) C dL_law_1672 (nI 2) (by decide) ?_
  refine z_iaddN (pc := 1673) C dL_law_1673 ?_
  refine z_sld (pc := 1674) C SX dL_law_1674 (by omega) (by omega) ?_
  refine z_aload_n (pc := 1675) C dL_law_1675 0 rfl ?_
  refine z_iload (pc := 1676) C dL_law_1676 4 rfl ?_
  refine z_iconst (pc := 1678) C dL_law_1678 (nI 3) (by decide) ?_
  refine z_iaddN (pc := 1679) C dL_law_1679 ?_
  refine z_sld (pc := 1680) C SX dL_law_1680 (by omega) (by omega) ?_
  refine z_cV1Q (pc := 1681) mX11_stands C [_, _, _] dL_law_1681 lL_198 mtX11_stands (pr_stands hI) hI.1 rfl rfl (by decide) (Nat.le_of_ble_eq_true rfl) h1 h2 ?_
  rintro _ k1 ⟨⟨y, rfl⟩, ⟨fs, hf⟩, hm2⟩
  refine z_aload_n (pc := 1684) C dL_law_1684 2 rfl ?_
  refine z_aload_n (pc := 1685) C dL_law_1685 0 rfl ?_
  refine z_iload (pc := 1686) C dL_law_1686 4 rfl ?_
  refine z_iconst (pc := 1688) C dL_law_1688 (nI 1) (by decide) ?_
  refine z_iaddN (pc := 1689) C dL_law_1689 ?_
  refine z_sld (pc := 1690) C SX dL_law_1690 (by omega) (by omega) ?_
  refine z_aload_n (pc := 1691) C dL_law_1691 0 rfl ?_
  refine z_iload (pc := 1692) C dL_law_1692 4 rfl ?_
  refine z_iconst (pc := 1694) C dL_law_1694 (nI 2) (by decide) ?_
  refine z_iaddN (pc := 1695) C dL_law_1695 ?_
  refine z_sld (pc := 1696) C SX dL_law_1696 (by omega) (by omega) ?_
  refine z_aload_n (pc := 1697) C dL_law_1697 0 rfl ?_
  refine z_iload (pc := 1698) C dL_law_1698 4 rfl ?_
  refine z_iconst (pc := 1700) C dL_law_1700 (nI 3) (by decide) ?_
  refine z_iaddN (pc := 1701) C dL_law_1701 ?_
  refine z_sld (pc := 1702) C SX dL_law_1702 (by omega) (by omega) ?_
  refine z_cV1Q (pc := 1703) mX12_stands C [_, _, _] dL_law_1703 lL_201 mtX12_stands hm2 hf rfl rfl (by decide) (Nat.le_of_ble_eq_true rfl) h1 h2 ?_
  rintro _ k2 ⟨rfl, hI2⟩
  exact z_icmp_eq (pc := 1706) C 2020 dL_law_1706 (by decide) (fun _ => K k2 hI2) (fun q => absurd rfl q)

theorem lw_c44 {X : ZX} {nm : String} {Q : State → Prop} {h : ZH} {n cs sl L i : Nat} {xs : Nat → Int32} (C : zOk X (mLw nm) 20 601024 7293034) (SX : zScr X L xs) (hL : L ≤ 3072) (hi : i + 6 ≤ L) (h1 : cs ≤ 601024) (h2 : sl ≤ 7293034) (hI : Inv h) (K : ∀ hh, Inv hh → Zc X (mLw nm) Q 2020 (lvL i) [] hh n cs sl) : Zc X (mLw nm) Q 1711 (lvL i) [] h n cs sl := by
  obtain ⟨st, sl9, sr, t, ds, dl, dr, dt, ic, len, un, la, tb, fa, pl, B, R, S, F, I, U, f1, f2, f3, v, b, hI⟩ := hI
  refine z_aload_n (pc := 1711) C dL_law_1711 1 rfl ?_
  refine z_aload_n (pc := 1712) C dL_law_1712 0 rfl ?_
  refine z_iload (pc := 1713) C dL_law_1713 4 rfl ?_
  refine z_iconst (pc := 1715) C dL_law_1715 (nI 1) (by decide) ?_
  refine z_iaddN (pc := 1716) C dL_law_1716 ?_
  refine z_sld (pc := 1717) C SX dL_law_1717 (by omega) (by omega) ?_
  refine z_aload_n (pc := 1718) C dL_law_1718 0 rfl ?_
  refine z_iload (pc := 1719) C dL_law_1719 4 rfl ?_
  refine z_iconst (pc := 1721) C dL_law_1721 (nI 2) (by decide) ?_
  refine z_iaddN (pc := 1722) C dL_law_1722 ?_
  refine z_sld (pc := 1723) C SX dL_law_1723 (by omega) (by omega) ?_
  refine z_cV1Q (pc := 1724) mX11_meet C [_, _] dL_law_1724 lL_202 mtX11_meet (pr_meet hI) hI.1 rfl rfl (by decide) (Nat.le_of_ble_eq_true rfl) h1 h2 ?_
  rintro _ k1 ⟨⟨y, rfl⟩, ⟨fs, hf⟩, hm2⟩
  refine z_aload_n (pc := 1727) C dL_law_1727 2 rfl ?_
  refine z_aload_n (pc := 1728) C dL_law_1728 0 rfl ?_
  refine z_iload (pc := 1729) C dL_law_1729 4 rfl ?_
  refine z_iconst (pc := 1731) C dL_law_1731 (nI 1) (by decide) ?_
  refine z_iaddN (pc := 1732) C dL_law_1732 ?_
  refine z_sld (pc := 1733) C SX dL_law_1733 (by omega) (by omega) ?_
  refine z_aload_n (pc := 1734) C dL_law_1734 0 rfl ?_
  refine z_iload (pc := 1735) C dL_law_1735 4 rfl ?_
  refine z_iconst (pc := 1737) C dL_law_1737 (nI 2) (by decide) ?_
  refine z_iaddN (pc := 1738) C dL_law_1738 ?_
  refine z_sld (pc := 1739) C SX dL_law_1739 (by omega) (by omega) ?_
  refine z_cV1Q (pc := 1740) mX12_meet C [_, _] dL_law_1740 lL_205 mtX12_meet hm2 hf rfl rfl (by decide) (Nat.le_of_ble_eq_true rfl) h1 h2 ?_
  rintro _ k2 ⟨rfl, hI2⟩
  exact z_icmp_eq (pc := 1743) C 2020 dL_law_1743 (by decide) (fun _ => K k2 hI2) (fun q => absurd rfl q)

theorem lw_c45 {X : ZX} {nm : String} {Q : State → Prop} {h : ZH} {n cs sl L i : Nat} {xs : Nat → Int32} (C : zOk X (mLw nm) 20 601024 7293034) (SX : zScr X L xs) (hL : L ≤ 3072) (hi : i + 6 ≤ L) (h1 : cs ≤ 601024) (h2 : sl ≤ 7293034) (hI : Inv h) (K : ∀ hh, Inv hh → Zc X (mLw nm) Q 2020 (lvL i) [] hh n cs sl) : Zc X (mLw nm) Q 1748 (lvL i) [] h n cs sl := by
  obtain ⟨st, sl9, sr, t, ds, dl, dr, dt, ic, len, un, la, tb, fa, pl, B, R, S, F, I, U, f1, f2, f3, v, b, hI⟩ := hI
  refine z_aload_n (pc := 1748) C dL_law_1748 1 rfl ?_
  refine z_aload_n (pc := 1749) C dL_law_1749 0 rfl ?_
  refine z_iload (pc := 1750) C dL_law_1750 4 rfl ?_
  refine z_iconst (pc := 1752) C dL_law_1752 (nI 1) (by decide) ?_
  refine z_iaddN (pc := 1753) C dL_law_1753 ?_
  refine z_sld (pc := 1754) C SX dL_law_1754 (by omega) (by omega) ?_
  refine z_aload_n (pc := 1755) C dL_law_1755 0 rfl ?_
  refine z_iload (pc := 1756) C dL_law_1756 4 rfl ?_
  refine z_iconst (pc := 1758) C dL_law_1758 (nI 2) (by decide) ?_
  refine z_iaddN (pc := 1759) C dL_law_1759 ?_
  refine z_sld (pc := 1760) C SX dL_law_1760 (by omega) (by omega) ?_
  refine z_cV1Q (pc := 1761) mX11_step C [_, _] dL_law_1761 lL_206 mtX11_step (pr_step hI) hI.1 rfl rfl (by decide) (Nat.le_of_ble_eq_true rfl) h1 h2 ?_
  rintro _ k1 ⟨⟨y, rfl⟩, ⟨fs, hf⟩, hm2⟩
  refine z_aload_n (pc := 1764) C dL_law_1764 2 rfl ?_
  refine z_aload_n (pc := 1765) C dL_law_1765 0 rfl ?_
  refine z_iload (pc := 1766) C dL_law_1766 4 rfl ?_
  refine z_iconst (pc := 1768) C dL_law_1768 (nI 1) (by decide) ?_
  refine z_iaddN (pc := 1769) C dL_law_1769 ?_
  refine z_sld (pc := 1770) C SX dL_law_1770 (by omega) (by omega) ?_
  refine z_aload_n (pc := 1771) C dL_law_1771 0 rfl ?_
  refine z_iload (pc := 1772) C dL_law_1772 4 rfl ?_
  refine z_iconst (pc := 1774) C dL_law_1774 (nI 2) (by decide) ?_
  refine z_iaddN (pc := 1775) C dL_law_1775 ?_
  refine z_sld (pc := 1776) C SX dL_law_1776 (by omega) (by omega) ?_
  refine z_cV1Q (pc := 1777) mX12_step C [_, _] dL_law_1777 lL_209 mtX12_step hm2 hf rfl rfl (by decide) (Nat.le_of_ble_eq_true rfl) h1 h2 ?_
  rintro _ k2 ⟨rfl, hI2⟩
  exact z_icmp_eq (pc := 1780) C 2020 dL_law_1780 (by decide) (fun _ => K k2 hI2) (fun q => absurd rfl q)

theorem lw_c46 {X : ZX} {nm : String} {Q : State → Prop} {h : ZH} {n cs sl L i : Nat} {xs : Nat → Int32} (C : zOk X (mLw nm) 20 601024 7293034) (SX : zScr X L xs) (hL : L ≤ 3072) (hi : i + 6 ≤ L) (h1 : cs ≤ 601024) (h2 : sl ≤ 7293034) (hI : Inv h) (K : ∀ hh, Inv hh → Zc X (mLw nm) Q 2020 (lvL i) [] hh n cs sl) : Zc X (mLw nm) Q 1785 (lvL i) [] h n cs sl := by
  obtain ⟨st, sl9, sr, t, ds, dl, dr, dt, ic, len, un, la, tb, fa, pl, B, R, S, F, I, U, f1, f2, f3, v, b, hI⟩ := hI
  refine z_aload_n (pc := 1785) C dL_law_1785 1 rfl ?_
  refine z_aload_n (pc := 1786) C dL_law_1786 0 rfl ?_
  refine z_iload (pc := 1787) C dL_law_1787 4 rfl ?_
  refine z_iconst (pc := 1789) C dL_law_1789 (nI 1) (by decide) ?_
  refine z_iaddN (pc := 1790) C dL_law_1790 ?_
  refine z_sld (pc := 1791) C SX dL_law_1791 (by omega) (by omega) ?_
  refine z_aload_n (pc := 1792) C dL_law_1792 0 rfl ?_
  refine z_iload (pc := 1793) C dL_law_1793 4 rfl ?_
  refine z_iconst (pc := 1795) C dL_law_1795 (nI 2) (by decide) ?_
  refine z_iaddN (pc := 1796) C dL_law_1796 ?_
  refine z_sld (pc := 1797) C SX dL_law_1797 (by omega) (by omega) ?_
  refine z_cV1Q (pc := 1798) mX11_take C [_, _] dL_law_1798 lL_210 mtX11_take (pr_take hI) hI.1 rfl rfl (by decide) (Nat.le_of_ble_eq_true rfl) h1 h2 ?_
  rintro _ k1 ⟨⟨y, rfl⟩, ⟨fs, hf⟩, hm2⟩
  refine z_aload_n (pc := 1801) C dL_law_1801 2 rfl ?_
  refine z_aload_n (pc := 1802) C dL_law_1802 0 rfl ?_
  refine z_iload (pc := 1803) C dL_law_1803 4 rfl ?_
  refine z_iconst (pc := 1805) C dL_law_1805 (nI 1) (by decide) ?_
  refine z_iaddN (pc := 1806) C dL_law_1806 ?_
  refine z_sld (pc := 1807) C SX dL_law_1807 (by omega) (by omega) ?_
  refine z_aload_n (pc := 1808) C dL_law_1808 0 rfl ?_
  refine z_iload (pc := 1809) C dL_law_1809 4 rfl ?_
  refine z_iconst (pc := 1811) C dL_law_1811 (nI 2) (by decide) ?_
  refine z_iaddN (pc := 1812) C dL_law_1812 ?_
  refine z_sld (pc := 1813) C SX dL_law_1813 (by omega) (by omega) ?_
  refine z_cV1Q (pc := 1814) mX12_take C [_, _] dL_law_1814 lL_213 mtX12_take hm2 hf rfl rfl (by decide) (Nat.le_of_ble_eq_true rfl) h1 h2 ?_
  rintro _ k2 ⟨rfl, hI2⟩
  exact z_icmp_eq (pc := 1817) C 2020 dL_law_1817 (by decide) (fun _ => K k2 hI2) (fun q => absurd rfl q)

theorem lw_c47 {X : ZX} {nm : String} {Q : State → Prop} {h : ZH} {n cs sl L i : Nat} {xs : Nat → Int32} (C : zOk X (mLw nm) 20 601024 7293034) (SX : zScr X L xs) (hL : L ≤ 3072) (hi : i + 6 ≤ L) (h1 : cs ≤ 601024) (h2 : sl ≤ 7293034) (hI : Inv h) (K : ∀ hh, Inv hh → Zc X (mLw nm) Q 2020 (lvL i) [] hh n cs sl) : Zc X (mLw nm) Q 1822 (lvL i) [] h n cs sl := by
  obtain ⟨st, sl9, sr, t, ds, dl, dr, dt, ic, len, un, la, tb, fa, pl, B, R, S, F, I, U, f1, f2, f3, v, b, hI⟩ := hI
  refine z_aload_n (pc := 1822) C dL_law_1822 1 rfl ?_
  refine z_aload_n (pc := 1823) C dL_law_1823 0 rfl ?_
  refine z_iload (pc := 1824) C dL_law_1824 4 rfl ?_
  refine z_iconst (pc := 1826) C dL_law_1826 (nI 1) (by decide) ?_
  refine z_iaddN (pc := 1827) C dL_law_1827 ?_
  refine z_sld (pc := 1828) C SX dL_law_1828 (by omega) (by omega) ?_
  refine z_aload_n (pc := 1829) C dL_law_1829 0 rfl ?_
  refine z_iload (pc := 1830) C dL_law_1830 4 rfl ?_
  refine z_iconst (pc := 1832) C dL_law_1832 (nI 2) (by decide) ?_
  refine z_iaddN (pc := 1833) C dL_law_1833 ?_
  refine z_sld (pc := 1834) C SX dL_law_1834 (by omega) (by omega) ?_
  refine z_tob (pc := 1835) C dL_law_1835 dL_law_1838 dL_law_1839 dL_law_1842 ?_
  refine z_cV1Q (pc := 1843) mX11_light C [_, _] dL_law_1843 lL_214 mtX11_light (pr_light hI) hI.1 rfl rfl (by decide) (Nat.le_of_ble_eq_true rfl) h1 h2 ?_
  rintro _ k1 ⟨⟨y, rfl⟩, ⟨fs, hf⟩, hm2⟩
  refine z_aload_n (pc := 1846) C dL_law_1846 2 rfl ?_
  refine z_aload_n (pc := 1847) C dL_law_1847 0 rfl ?_
  refine z_iload (pc := 1848) C dL_law_1848 4 rfl ?_
  refine z_iconst (pc := 1850) C dL_law_1850 (nI 1) (by decide) ?_
  refine z_iaddN (pc := 1851) C dL_law_1851 ?_
  refine z_sld (pc := 1852) C SX dL_law_1852 (by omega) (by omega) ?_
  refine z_aload_n (pc := 1853) C dL_law_1853 0 rfl ?_
  refine z_iload (pc := 1854) C dL_law_1854 4 rfl ?_
  refine z_iconst (pc := 1856) C dL_law_1856 (nI 2) (by decide) ?_
  refine z_iaddN (pc := 1857) C dL_law_1857 ?_
  refine z_sld (pc := 1858) C SX dL_law_1858 (by omega) (by omega) ?_
  refine z_tob (pc := 1859) C dL_law_1859 dL_law_1862 dL_law_1863 dL_law_1866 ?_
  refine z_cV1Q (pc := 1867) mX12_light C [_, _] dL_law_1867 lL_218 mtX12_light hm2 hf rfl rfl (by decide) (Nat.le_of_ble_eq_true rfl) h1 h2 ?_
  rintro _ k2 ⟨rfl, hI2⟩
  exact z_icmp_eq (pc := 1870) C 2020 dL_law_1870 (by decide) (fun _ => K k2 hI2) (fun q => absurd rfl q)

theorem lw_c48 {X : ZX} {nm : String} {Q : State → Prop} {h : ZH} {n cs sl L i : Nat} {xs : Nat → Int32} (C : zOk X (mLw nm) 20 601024 7293034) (SX : zScr X L xs) (hL : L ≤ 3072) (hi : i + 6 ≤ L) (h1 : cs ≤ 601024) (h2 : sl ≤ 7293034) (hI : Inv h) (K : ∀ hh, Inv hh → Zc X (mLw nm) Q 2020 (lvL i) [] hh n cs sl) : Zc X (mLw nm) Q 1875 (lvL i) [] h n cs sl := by
  obtain ⟨st, sl9, sr, t, ds, dl, dr, dt, ic, len, un, la, tb, fa, pl, B, R, S, F, I, U, f1, f2, f3, v, b, hI⟩ := hI
  refine z_aload_n (pc := 1875) C dL_law_1875 1 rfl ?_
  refine z_cV1Q (pc := 1876) mX11_undo C [] dL_law_1876 lL_219 mtX11_undo (pr_undo hI) hI.1 rfl rfl (by decide) (Nat.le_of_ble_eq_true rfl) h1 h2 ?_
  rintro _ k1 ⟨⟨y, rfl⟩, ⟨fs, hf⟩, hm2⟩
  refine z_aload_n (pc := 1879) C dL_law_1879 2 rfl ?_
  refine z_cV1Q (pc := 1880) mX12_undo C [] dL_law_1880 lL_223 mtX12_undo hm2 hf rfl rfl (by decide) (Nat.le_of_ble_eq_true rfl) h1 h2 ?_
  rintro _ k2 ⟨rfl, hI2⟩
  exact z_icmp_eq (pc := 1883) C 2020 dL_law_1883 (by decide) (fun _ => K k2 hI2) (fun q => absurd rfl q)

theorem lw_c49 {X : ZX} {nm : String} {Q : State → Prop} {h : ZH} {n cs sl L i : Nat} {xs : Nat → Int32} (C : zOk X (mLw nm) 20 601024 7293034) (SX : zScr X L xs) (hL : L ≤ 3072) (hi : i + 6 ≤ L) (h1 : cs ≤ 601024) (h2 : sl ≤ 7293034) (hI : Inv h) (K : ∀ hh, Inv hh → Zc X (mLw nm) Q 2020 (lvL i) [] hh n cs sl) : Zc X (mLw nm) Q 1888 (lvL i) [] h n cs sl := by
  obtain ⟨st, sl9, sr, t, ds, dl, dr, dt, ic, len, un, la, tb, fa, pl, B, R, S, F, I, U, f1, f2, f3, v, b, hI⟩ := hI
  refine z_aload_n (pc := 1888) C dL_law_1888 1 rfl ?_
  refine z_cV1Q (pc := 1889) mX11_image C [] dL_law_1889 lL_224 mtX11_image (pr_image hI) hI.1 rfl rfl (by decide) (Nat.le_of_ble_eq_true rfl) h1 h2 ?_
  rintro _ k1 ⟨⟨y, rfl⟩, ⟨fs, hf⟩, hm2⟩
  refine z_aload_n (pc := 1892) C dL_law_1892 2 rfl ?_
  refine z_cV1Q (pc := 1893) mX12_image C [] dL_law_1893 lL_227 mtX12_image hm2 hf rfl rfl (by decide) (Nat.le_of_ble_eq_true rfl) h1 h2 ?_
  rintro _ k2 ⟨rfl, hI2⟩
  exact z_icmp_eq (pc := 1896) C 2020 dL_law_1896 (by decide) (fun _ => K k2 hI2) (fun q => absurd rfl q)

theorem lw_c50 {X : ZX} {nm : String} {Q : State → Prop} {h : ZH} {n cs sl L i : Nat} {xs : Nat → Int32} (C : zOk X (mLw nm) 20 601024 7293034) (SX : zScr X L xs) (hL : L ≤ 3072) (hi : i + 6 ≤ L) (h1 : cs ≤ 601024) (h2 : sl ≤ 7293034) (hI : Inv h) (K : ∀ hh, Inv hh → Zc X (mLw nm) Q 2020 (lvL i) [] hh n cs sl) : Zc X (mLw nm) Q 1901 (lvL i) [] h n cs sl := by
  obtain ⟨st, sl9, sr, t, ds, dl, dr, dt, ic, len, un, la, tb, fa, pl, B, R, S, F, I, U, f1, f2, f3, v, b, hI⟩ := hI
  refine z_aload_n (pc := 1901) C dL_law_1901 1 rfl ?_
  refine z_aload_n (pc := 1902) C dL_law_1902 0 rfl ?_
  refine z_iload (pc := 1903) C dL_law_1903 4 rfl ?_
  refine z_iconst (pc := 1905) C dL_law_1905 (nI 1) (by decide) ?_
  refine z_iaddN (pc := 1906) C dL_law_1906 ?_
  refine z_sld (pc := 1907) C SX dL_law_1907 (by omega) (by omega) ?_
  refine z_cV1Q (pc := 1908) mX11_back C [_] dL_law_1908 lL_228 mtX11_back (pr_back hI) hI.1 rfl rfl (by decide) (Nat.le_of_ble_eq_true rfl) h1 h2 ?_
  rintro _ k1 ⟨⟨y, rfl⟩, ⟨fs, hf⟩, hm2⟩
  refine z_aload_n (pc := 1911) C dL_law_1911 2 rfl ?_
  refine z_aload_n (pc := 1912) C dL_law_1912 0 rfl ?_
  refine z_iload (pc := 1913) C dL_law_1913 4 rfl ?_
  refine z_iconst (pc := 1915) C dL_law_1915 (nI 1) (by decide) ?_
  refine z_iaddN (pc := 1916) C dL_law_1916 ?_
  refine z_sld (pc := 1917) C SX dL_law_1917 (by omega) (by omega) ?_
  refine z_cV1Q (pc := 1918) mX12_back C [_] dL_law_1918 lL_232 mtX12_back hm2 hf rfl rfl (by decide) (Nat.le_of_ble_eq_true rfl) h1 h2 ?_
  rintro _ k2 ⟨rfl, hI2⟩
  exact z_icmp_eq (pc := 1921) C 2020 dL_law_1921 (by decide) (fun _ => K k2 hI2) (fun q => absurd rfl q)

theorem lw_c52 {X : ZX} {nm : String} {Q : State → Prop} {h : ZH} {n cs sl L i : Nat} {xs : Nat → Int32} (C : zOk X (mLw nm) 20 601024 7293034) (SX : zScr X L xs) (hL : L ≤ 3072) (hi : i + 6 ≤ L) (h1 : cs ≤ 601024) (h2 : sl ≤ 7293034) (hI : Inv h) (K : ∀ hh, Inv hh → Zc X (mLw nm) Q 2020 (lvL i) [] hh n cs sl) : Zc X (mLw nm) Q 1982 (lvL i) [] h n cs sl := by
  obtain ⟨st, sl9, sr, t, ds, dl, dr, dt, ic, len, un, la, tb, fa, pl, B, R, S, F, I, U, f1, f2, f3, v, b, hI⟩ := hI
  refine z_aload_n (pc := 1982) C dL_law_1982 1 rfl ?_
  refine z_aload_n (pc := 1983) C dL_law_1983 0 rfl ?_
  refine z_iload (pc := 1984) C dL_law_1984 4 rfl ?_
  refine z_iconst (pc := 1986) C dL_law_1986 (nI 1) (by decide) ?_
  refine z_iaddN (pc := 1987) C dL_law_1987 ?_
  refine z_sld (pc := 1988) C SX dL_law_1988 (by omega) (by omega) ?_
  refine z_cV1Q (pc := 1989) mX11_size C [_] dL_law_1989 lL_242 mtX11_size (pr_size hI) hI.1 rfl rfl (by decide) (Nat.le_of_ble_eq_true rfl) h1 h2 ?_
  rintro _ k1 ⟨⟨y, rfl⟩, ⟨fs, hf⟩, hm2⟩
  refine z_aload_n (pc := 1992) C dL_law_1992 2 rfl ?_
  refine z_aload_n (pc := 1993) C dL_law_1993 0 rfl ?_
  refine z_iload (pc := 1994) C dL_law_1994 4 rfl ?_
  refine z_iconst (pc := 1996) C dL_law_1996 (nI 1) (by decide) ?_
  refine z_iaddN (pc := 1997) C dL_law_1997 ?_
  refine z_sld (pc := 1998) C SX dL_law_1998 (by omega) (by omega) ?_
  refine z_cV1Q (pc := 1999) mX12_size C [_] dL_law_1999 lL_245 mtX12_size hm2 hf rfl rfl (by decide) (Nat.le_of_ble_eq_true rfl) h1 h2 ?_
  rintro _ k2 ⟨rfl, hI2⟩
  exact z_icmp_eq (pc := 2002) C 2020 dL_law_2002 (by decide) (fun _ => K k2 hI2) (fun q => absurd rfl q)

theorem lw_c53 {X : ZX} {nm : String} {Q : State → Prop} {h : ZH} {n cs sl L i : Nat} {xs : Nat → Int32} (C : zOk X (mLw nm) 20 601024 7293034) (SX : zScr X L xs) (hL : L ≤ 3072) (hi : i + 6 ≤ L) (h1 : cs ≤ 601024) (h2 : sl ≤ 7293034) (hI : Inv h) (K : ∀ hh, Inv hh → Zc X (mLw nm) Q 2020 (lvL i) [] hh n cs sl) : Zc X (mLw nm) Q 2007 (lvL i) [] h n cs sl := by
  obtain ⟨st, sl9, sr, t, ds, dl, dr, dt, ic, len, un, la, tb, fa, pl, B, R, S, F, I, U, f1, f2, f3, v, b, hI⟩ := hI
  refine z_aload_n (pc := 2007) C dL_law_2007 1 rfl ?_
  refine z_cV1Q (pc := 2008) mX11_trouble C [] dL_law_2008 lL_246 mtX11_trouble (pr_trouble hI) hI.1 rfl rfl (by decide) (Nat.le_of_ble_eq_true rfl) h1 h2 ?_
  rintro _ k1 ⟨⟨y, rfl⟩, ⟨fs, hf⟩, hm2⟩
  refine z_aload_n (pc := 2011) C dL_law_2011 2 rfl ?_
  refine z_cV1Q (pc := 2012) mX12_trouble C [] dL_law_2012 lL_249 mtX12_trouble hm2 hf rfl rfl (by decide) (Nat.le_of_ble_eq_true rfl) h1 h2 ?_
  rintro _ k2 ⟨rfl, hI2⟩
  exact z_icmp_eq (pc := 2015) C 2020 dL_law_2015 (by decide) (fun _ => K k2 hI2) (fun q => absurd rfl q)

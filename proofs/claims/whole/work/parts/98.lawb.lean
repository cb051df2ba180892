theorem zle_allow {V V' : zCl} {g : Int32} {i : Bool} {b z f la : Int32} {c : Nat} {r : Int32} (h : zA_allow V g i b z f la c r V') : c ≤ 3 := h.le (by decide) (fun ⟨_, _, _, _, h⟩ => h.le (by decide) (fun h => h.le (by decide) (fun h => by rw [h.1]; decide)))
set_option maxRecDepth 100000 in
set_option maxHeartbeats 4000000 in
theorem law_allow {p : Program} {l : Launch} {e : Env} {s : State} {m : MethodId} {below : List Frame} {meth : Method} {c : Code} {Q : State → Prop} {E : zG} {b L : Nat} {xs : Nat → Int32} (hl0 : l.stackTraces = false) (Cx : zC E p s m #[Value.ref b] meth c RL cL_law wsL_law 7) (hnc : zNc s) (hX : va_X b L xs s s.heap) (hbl : b < s.heap.size) (hbA : ¬ eA E b) {n y x o cells slots : Nat} {ad : Nat → Nat} {sc : Nat → Int32} {g : Nat → Nat → Int32} {ov : Nat → Int64} {Y : va_W} {C : zLs} {V V2 : zCl} {H : Heap} {locs : List Loc} {ls : Array Slot} (hn : n + 9 ≤ L) (hL : L ≤ 4608) (hc : cells + 20 ≤ room_1.cells) (hs : slots + 200 ≤ room_1.slots) (St : zSt E y x o ad s sc g ov Y C V V2 H locs) (hl : lv_has ls 7 [(0, .ref b), (1, .ref x), (2, .ref y), (3, .ref o), (4, .int (nI n))])
    (kk : zKK p l e s m b below meth c Q E y x o ad n (cells + 20) (slots + 200) 1551) : W p l e room_1 s m #[Value.ref b] below meth c H locs cells slots Q (F0 m 456 ls []) := by
  obtain ⟨hw, hrc, hT, hI, hE⟩ := St
  have hx := Cx.1.1
  have hb := Cx.1.2.1
  have hI2 := zInv_eqv hI hE
  have hlN : (vN V).length ≤ 1000 := by rw [hE.1]; exact Nat.le_trans hT.1.1.2.1 (by omega)
  have hlS : (vS V).length ≤ 1000 := by rw [hE.len]; exact Nat.le_trans hT.1.2.1.2.1 (by omega)
  have hlH : (vH V).length ≤ 1000 := by rw [hE.2.2.1]; exact Nat.le_trans hT.1.2.2.1.2.1 (by omega)
  have hlG : (vG V).length ≤ 1000 := by rw [hE.2.2.2.2]; exact Nat.le_trans hT.1.2.2.2.2.2.1 (by omega)
  refine lv_aload_n hx hb dL_law_456 rfl (lv_at hl 1 rfl) ?_
  refine lv_aload_n hx hb dL_law_457 rfl (lv_at hl 0 rfl) ?_
  refine lv_iload hx hb dL_law_458 (lv_at hl 4 rfl) ?_
  refine lv_iconst (v := nI 1) hx hb dL_law_460 rfl ?_
  refine lv_iadd hx hb dL_law_461 ?_
  refine lv_topi (fun q461 e461 => ?_)
  rw [nI_add] at e461
  subst e461
  refine zl_sld Cx hX hbl hbA hw (show n + 1 < L by omega) hL dL_law_462 ?_
  refine lv_aload_n hx hb dL_law_463 rfl (lv_at hl 0 rfl) ?_
  refine lv_iload hx hb dL_law_464 (lv_at hl 4 rfl) ?_
  refine lv_iconst (v := nI 2) hx hb dL_law_466 rfl ?_
  refine lv_iadd hx hb dL_law_467 ?_
  refine lv_topi (fun q467 e467 => ?_)
  rw [nI_add] at e467
  subst e467
  refine zl_sld Cx hX hbl hbA hw (show n + 2 < L by omega) hL dL_law_468 ?_
  refine zl_bool Cx dL_law_469 dL_law_472 dL_law_473 dL_law_476 ?_
  refine lv_aload_n hx hb dL_law_477 rfl (lv_at hl 0 rfl) ?_
  refine lv_iload hx hb dL_law_478 (lv_at hl 4 rfl) ?_
  refine lv_iconst (v := nI 3) hx hb dL_law_480 rfl ?_
  refine lv_iadd hx hb dL_law_481 ?_
  refine lv_topi (fun q481 e481 => ?_)
  rw [nI_add] at e481
  subst e481
  refine zl_sld Cx hX hbl hbA hw (show n + 3 < L by omega) hL dL_law_482 ?_
  refine lv_aload_n hx hb dL_law_483 rfl (lv_at hl 0 rfl) ?_
  refine lv_iload hx hb dL_law_484 (lv_at hl 4 rfl) ?_
  refine lv_iconst (v := nI 4) hx hb dL_law_486 rfl ?_
  refine lv_iadd hx hb dL_law_487 ?_
  refine lv_topi (fun q487 e487 => ?_)
  rw [nI_add] at e487
  subst e487
  refine zl_sld Cx hX hbl hbA hw (show n + 4 < L by omega) hL dL_law_488 ?_
  refine lv_aload_n hx hb dL_law_489 rfl (lv_at hl 0 rfl) ?_
  refine lv_iload hx hb dL_law_490 (lv_at hl 4 rfl) ?_
  refine lv_iconst (v := nI 5) hx hb dL_law_492 rfl ?_
  refine lv_iadd hx hb dL_law_493 ?_
  refine lv_topi (fun q493 e493 => ?_)
  rw [nI_add] at e493
  subst e493
  refine zl_sld Cx hX hbl hbA hw (show n + 5 < L by omega) hL dL_law_494 ?_
  refine lv_aload_n hx hb dL_law_495 rfl (lv_at hl 0 rfl) ?_
  refine lv_iload hx hb dL_law_496 (lv_at hl 4 rfl) ?_
  refine lv_bipush (v := nI 6) hx hb dL_law_498 rfl ?_
  refine lv_iadd hx hb dL_law_500 ?_
  refine lv_topi (fun q500 e500 => ?_)
  rw [nI_add] at e500
  subst e500
  refine zl_sld Cx hX hbl hbA hw (show n + 6 < L by omega) hL dL_law_501 ?_
  refine lv_aload_n hx hb dL_law_502 rfl (lv_at hl 3 rfl) ?_
  refine z_goi (wf := zWL E (zMw E y ad sc g) o ov) hw.2 (z_runSW Cx hnc hw (c_L_allow E l hl0 (zMw E y ad sc g) Y C x o ov V hrc (xs (n + 1)) (!decide (xs (n + 2) = 0)) (xs (n + 3)) (xs (n + 4)) (xs (n + 5)) (xs (n + 6))) (vx_cwSW 8 Cx.1.2.2.2.2 (zgs2 gL_law_L_allow) rfl rfl rfl (by decide +kernel) ⟨(Nat.le_of_ble_eq_true rfl), (Nat.le_of_ble_eq_true rfl)⟩) rfl hl.1 rfl (Nat.le_of_ble_eq_true rfl) dL_law_503 ⟨hc, hs⟩) (fun r u H locs hp hw => ?_)
  obtain ⟨⟨Y1, C1⟩, k1, r1, V1⟩ := u
  obtain ⟨hr1, hrel, hrc1⟩ := hp
  have hr1 : r = nI k1 := hr1
  subst hr1
  have hrel : zA_allow V (xs (n + 1)) (!decide (xs (n + 2) = 0)) (xs (n + 3)) (xs (n + 4)) (xs (n + 5)) (xs (n + 6)) k1 r1 V1 := hrel
  have hrc1 : zRC Y1 C1 x V1 := hrc1
  have hw : zHA E ((zMw E y ad sc g ++ [(o, zoc E (zov ov k1 r1))]) ++ Y1) C1 s H locs := hw
  have hk3 := zle_allow (V' := V1) hrel
  refine lv_istore hx hb dL_law_506 hl (by decide) rfl (fun ls hl => ?_)
  have hl : lv_has ls 7 [(5, .int (nI k1)), (0, .ref b), (1, .ref x), (2, .ref y), (3, .ref o), (4, .int (nI n))] := hl
  have hw : zHA E ((Y1 ++ [(o, zoc E (zov ov k1 r1))]) ++ zMw E y ad sc g) C1 s H locs := ⟨hw.1.perm z_swap, hw.2⟩
  refine lv_aload_n hx hb dL_law_508 rfl (lv_at hl 3 rfl) ?_
  refine lv_aload_n hx hb dL_law_509 rfl (lv_at hl 1 rfl) ?_
  refine lv_iload hx hb dL_law_510 (lv_at hl 5 rfl) ?_
  refine lv_iconst (v := nI 1) hx hb dL_law_512 rfl ?_
  refine lv_iadd hx hb dL_law_513 ?_
  refine lv_topi (fun q513 e513 => ?_)
  rw [nI_add] at e513
  subst e513
  refine zl_sld Cx hX hbl hbA hw (show n + 1 < L by omega) hL dL_law_514 ?_
  refine lv_aload_n hx hb dL_law_515 rfl (lv_at hl 1 rfl) ?_
  refine lv_iload hx hb dL_law_516 (lv_at hl 5 rfl) ?_
  refine lv_iconst (v := nI 2) hx hb dL_law_518 rfl ?_
  refine lv_iadd hx hb dL_law_519 ?_
  refine lv_topi (fun q519 e519 => ?_)
  rw [nI_add] at e519
  subst e519
  refine zl_sld Cx hX hbl hbA hw (show n + 2 < L by omega) hL dL_law_520 ?_
  refine zl_bool Cx dL_law_521 dL_law_524 dL_law_525 dL_law_528 ?_
  refine lv_aload_n hx hb dL_law_529 rfl (lv_at hl 1 rfl) ?_
  refine lv_iload hx hb dL_law_530 (lv_at hl 5 rfl) ?_
  refine lv_iconst (v := nI 3) hx hb dL_law_532 rfl ?_
  refine lv_iadd hx hb dL_law_533 ?_
  refine lv_topi (fun q533 e533 => ?_)
  rw [nI_add] at e533
  subst e533
  refine zl_sld Cx hX hbl hbA hw (show n + 3 < L by omega) hL dL_law_534 ?_
  refine lv_aload_n hx hb dL_law_535 rfl (lv_at hl 1 rfl) ?_
  refine lv_iload hx hb dL_law_536 (lv_at hl 5 rfl) ?_
  refine lv_iconst (v := nI 4) hx hb dL_law_538 rfl ?_
  refine lv_iadd hx hb dL_law_539 ?_
  refine lv_topi (fun q539 e539 => ?_)
  rw [nI_add] at e539
  subst e539
  refine zl_sld Cx hX hbl hbA hw (show n + 4 < L by omega) hL dL_law_540 ?_
  refine lv_aload_n hx hb dL_law_541 rfl (lv_at hl 1 rfl) ?_
  refine lv_iload hx hb dL_law_542 (lv_at hl 5 rfl) ?_
  refine lv_iconst (v := nI 5) hx hb dL_law_544 rfl ?_
  refine lv_iadd hx hb dL_law_545 ?_
  refine lv_topi (fun q545 e545 => ?_)
  rw [nI_add] at e545
  subst e545
  refine zl_sld Cx hX hbl hbA hw (show n + 5 < L by omega) hL dL_law_546 ?_
  refine lv_aload_n hx hb dL_law_547 rfl (lv_at hl 1 rfl) ?_
  refine lv_iload hx hb dL_law_548 (lv_at hl 5 rfl) ?_
  refine lv_bipush (v := nI 6) hx hb dL_law_550 rfl ?_
  refine lv_iadd hx hb dL_law_552 ?_
  refine lv_topi (fun q552 e552 => ?_)
  rw [nI_add] at e552
  subst e552
  refine zl_sld Cx hX hbl hbA hw (show n + 6 < L by omega) hL dL_law_553 ?_
  refine z_goi (wf := fun (u : zU) => zQ E ((Y1 ++ [(o, zoc E (zov ov k1 r1))]) ++ zMw E y ad u.2.1 u.2.2.1) C1) hw.2 (z_runV Cx hw (c_m_allow E l (Y1 ++ [(o, zoc E (zov ov k1 r1))]) C1 y ad sc g V2 hT hI2 (xs (n + 1)) (!decide (xs (n + 2) = 0)) (xs (n + 3)) (xs (n + 4)) (xs (n + 5)) (xs (n + 6))) (cwV 6 Cx.1.2.2.2.2 gL_law_X8_allow rfl rfl rfl (by decide +kernel) ⟨(Nat.le_of_ble_eq_true rfl), (Nat.le_of_ble_eq_true rfl)⟩) (z_recv Cx hw (r := (RX8, TX8, 26)) zM_x rfl) rfl hl.1 rfl (Nat.le_of_ble_eq_true rfl) dL_law_554 ⟨hc, hs⟩) (fun r2 u H locs hp hw => ?_)
  obtain ⟨k2, sc2, g2, W2⟩ := u
  obtain ⟨hrel2, hT2, hk2⟩ := hp
  have hrel2 : zA_allow V2 (xs (n + 1)) (!decide (xs (n + 2) = 0)) (xs (n + 3)) (xs (n + 4)) (xs (n + 5)) (xs (n + 6)) k2 r2 W2 := hrel2
  have hT2 : zMT sc2 g2 W2 := hT2
  have hk2 : sc2 0 = nI k2 := hk2
  have hw : zHA E ((Y1 ++ [(o, zoc E (zov ov k1 r1))]) ++ zMw E y ad sc2 g2) C1 s H locs := hw
  obtain ⟨hk, hrr, hE2⟩ := zd_allow hE hlG hrel hrel2
  have hI1 := zk_allow hI hrel
  subst hk
  refine lv_istore hx hb dL_law_557 hl (by decide) rfl (fun ls hl => ?_)
  have hl : lv_has ls 7 [(6, .int r2), (5, .int (nI k1)), (0, .ref b), (1, .ref x), (2, .ref y), (3, .ref o), (4, .int (nI n))] := hl
  refine lv_aload_n hx hb dL_law_559 rfl (lv_at hl 4 rfl) ?_
  refine z_goe hw.2 (z_runV Cx hw (c_X8_thrown E l (Y1 ++ [(o, zoc E (zov ov k1 r1))]) C1 y ad sc2 g2) (cwV 0 Cx.1.2.2.2.2 gL_law_X8_thrown rfl rfl rfl (by decide +kernel) ⟨(Nat.le_of_ble_eq_true rfl), (Nat.le_of_ble_eq_true rfl)⟩) (z_recv Cx hw (r := (RX8, TX8, 26)) zM_x rfl) rfl hl.1 rfl (Nat.le_of_ble_eq_true rfl) dL_law_560 ⟨hc, hs⟩) (fun H locs hw => ?_)
  rw [hk2]
  refine lv_iload hx hb dL_law_563 (lv_at hl 1 rfl) ?_
  refine lv_icmp_eq (tgt := 570) hx hb dL_law_565 (by decide) (fun _ => ?_) (fun h => absurd rfl h)
  refine lv_iload hx hb dL_law_570 (lv_at hl 1 rfl) ?_
  have hend : W p l e room_1 s m #[Value.ref b] below meth c H locs (cells + 20 + 0 + 0) (slots + 200 + 0 + 0) Q (F0 m 587 ls []) := by
    refine lv_goto (tgt := 1551) hx hb dL_law_587 (by decide) ?_
    exact kk _ _ _ _ _ _ _ _ _ ls ⟨⟨hw.1.perm z_swap, hw.2⟩, hrc1, hT2, hI1, hE2⟩ (lv_sub hl [2, 3, 4, 5, 6] rfl)
  refine lv_if_ne (tgt := 587) hx hb dL_law_572 (by decide) (fun _ => hend) (fun h0 => ?_)
  have hk0 : k1 = 0 := zk_eq0 hk3 h0
  refine lv_aload_n hx hb dL_law_575 rfl (lv_at hl 5 rfl) ?_
  refine lv_iconst (v := 0) hx hb dL_law_576 (by decide) ?_
  refine zl_lald Cx hw dL_law_577 ?_
  rw [zov_0 hk0, hrr hk0]
  refine lv_iload hx hb dL_law_578 (lv_at hl 0 rfl) ?_
  refine lv_i2l hx hb dL_law_580 rfl ?_
  refine W.lcmp hx hb dL_law_581 ?_
  rw [lg_cmp_self]
  exact lv_if_eq (tgt := 587) hx hb dL_law_582 (by decide) (fun _ => hend) (fun h => absurd rfl h)

theorem zle_clearGroup {V V' : zCl} {g : Int32} {c : Nat} {r : Int32} (h : zA_clearGroup V g c r V') : c ≤ 3 := h.le (by decide) (fun ⟨_, _, _, _, h, _⟩ => by rw [h]; decide)
set_option maxRecDepth 100000 in
set_option maxHeartbeats 4000000 in
theorem law_clearGroup {p : Program} {l : Launch} {e : Env} {s : State} {m : MethodId} {below : List Frame} {meth : Method} {c : Code} {Q : State → Prop} {E : zG} {b L : Nat} {xs : Nat → Int32} (hl0 : l.stackTraces = false) (Cx : zC E p s m #[Value.ref b] meth c RL cL_law wsL_law 7) (hnc : zNc s) (hX : va_X b L xs s s.heap) (hbl : b < s.heap.size) (hbA : ¬ eA E b) {n y x o cells slots : Nat} {ad : Nat → Nat} {sc : Nat → Int32} {g : Nat → Nat → Int32} {ov : Nat → Int64} {Y : va_W} {C : zLs} {V V2 : zCl} {H : Heap} {locs : List Loc} {ls : Array Slot} (hn : n + 9 ≤ L) (hL : L ≤ 4608) (hc : cells + 20 ≤ room_1.cells) (hs : slots + 200 ≤ room_1.slots) (St : zSt E y x o ad s sc g ov Y C V V2 H locs) (hl : lv_has ls 7 [(0, .ref b), (1, .ref x), (2, .ref y), (3, .ref o), (4, .int (nI n))])
    (kk : zKK p l e s m b below meth c Q E y x o ad n (cells + 20) (slots + 200) 1551) : W p l e room_1 s m #[Value.ref b] below meth c H locs cells slots Q (F0 m 590 ls []) := by
  obtain ⟨hw, hrc, hT, hI, hE⟩ := St
  have hx := Cx.1.1
  have hb := Cx.1.2.1
  have hI2 := zInv_eqv hI hE
  have hlN : (vN V).length ≤ 1000 := by rw [hE.1]; exact Nat.le_trans hT.1.1.2.1 (by omega)
  have hlS : (vS V).length ≤ 1000 := by rw [hE.len]; exact Nat.le_trans hT.1.2.1.2.1 (by omega)
  have hlH : (vH V).length ≤ 1000 := by rw [hE.2.2.1]; exact Nat.le_trans hT.1.2.2.1.2.1 (by omega)
  have hlG : (vG V).length ≤ 1000 := by rw [hE.2.2.2.2]; exact Nat.le_trans hT.1.2.2.2.2.2.1 (by omega)
  refine lv_aload_n hx hb dL_law_590 rfl (lv_at hl 1 rfl) ?_
  refine lv_aload_n hx hb dL_law_591 rfl (lv_at hl 0 rfl) ?_
  refine lv_iload hx hb dL_law_592 (lv_at hl 4 rfl) ?_
  refine lv_iconst (v := nI 1) hx hb dL_law_594 rfl ?_
  refine lv_iadd hx hb dL_law_595 ?_
  refine lv_topi (fun q595 e595 => ?_)
  rw [nI_add] at e595
  subst e595
  refine zl_sld Cx hX hbl hbA hw (show n + 1 < L by omega) hL dL_law_596 ?_
  refine lv_aload_n hx hb dL_law_597 rfl (lv_at hl 3 rfl) ?_
  refine z_goi (wf := zWL E (zMw E y ad sc g) o ov) hw.2 (z_runSW Cx hnc hw (c_L_clearGroup E l hl0 (zMw E y ad sc g) Y C x o ov V hrc (xs (n + 1))) (vx_cwSW 3 Cx.1.2.2.2.2 (zgs2 gL_law_L_clearGroup) rfl rfl rfl (by decide +kernel) ⟨(Nat.le_of_ble_eq_true rfl), (Nat.le_of_ble_eq_true rfl)⟩) rfl hl.1 rfl (Nat.le_of_ble_eq_true rfl) dL_law_598 ⟨hc, hs⟩) (fun r u H locs hp hw => ?_)
  obtain ⟨⟨Y1, C1⟩, k1, r1, V1⟩ := u
  obtain ⟨hr1, hrel, hrc1⟩ := hp
  have hr1 : r = nI k1 := hr1
  subst hr1
  have hrel : zA_clearGroup V (xs (n + 1)) k1 r1 V1 := hrel
  have hrc1 : zRC Y1 C1 x V1 := hrc1
  have hw : zHA E ((zMw E y ad sc g ++ [(o, zoc E (zov ov k1 r1))]) ++ Y1) C1 s H locs := hw
  have hk3 := zle_clearGroup (V' := V1) hrel
  refine lv_istore hx hb dL_law_601 hl (by decide) rfl (fun ls hl => ?_)
  have hl : lv_has ls 7 [(5, .int (nI k1)), (0, .ref b), (1, .ref x), (2, .ref y), (3, .ref o), (4, .int (nI n))] := hl
  have hw : zHA E ((Y1 ++ [(o, zoc E (zov ov k1 r1))]) ++ zMw E y ad sc g) C1 s H locs := ⟨hw.1.perm z_swap, hw.2⟩
  refine lv_aload_n hx hb dL_law_603 rfl (lv_at hl 3 rfl) ?_
  refine lv_aload_n hx hb dL_law_604 rfl (lv_at hl 1 rfl) ?_
  refine lv_iload hx hb dL_law_605 (lv_at hl 5 rfl) ?_
  refine lv_iconst (v := nI 1) hx hb dL_law_607 rfl ?_
  refine lv_iadd hx hb dL_law_608 ?_
  refine lv_topi (fun q608 e608 => ?_)
  rw [nI_add] at e608
  subst e608
  refine zl_sld Cx hX hbl hbA hw (show n + 1 < L by omega) hL dL_law_609 ?_
  refine z_goi (wf := fun (u : zU) => zQ E ((Y1 ++ [(o, zoc E (zov ov k1 r1))]) ++ zMw E y ad u.2.1 u.2.2.1) C1) hw.2 (z_runV Cx hw (c_m_clearGroup E l (Y1 ++ [(o, zoc E (zov ov k1 r1))]) C1 y ad sc g V2 hT hI2 (xs (n + 1))) (cwV 1 Cx.1.2.2.2.2 gL_law_X8_clearGroup rfl rfl rfl (by decide +kernel) ⟨(Nat.le_of_ble_eq_true rfl), (Nat.le_of_ble_eq_true rfl)⟩) (z_recv Cx hw (r := (RX8, TX8, 26)) zM_x rfl) rfl hl.1 rfl (Nat.le_of_ble_eq_true rfl) dL_law_610 ⟨hc, hs⟩) (fun r2 u H locs hp hw => ?_)
  obtain ⟨k2, sc2, g2, W2⟩ := u
  obtain ⟨hrel2, hT2, hk2⟩ := hp
  have hrel2 : zA_clearGroup V2 (xs (n + 1)) k2 r2 W2 := hrel2
  have hT2 : zMT sc2 g2 W2 := hT2
  have hk2 : sc2 0 = nI k2 := hk2
  have hw : zHA E ((Y1 ++ [(o, zoc E (zov ov k1 r1))]) ++ zMw E y ad sc2 g2) C1 s H locs := hw
  obtain ⟨hk, hrr, hE2⟩ := zd_clearGroup hE hlG hrel hrel2
  have hI1 := zk_clearGroup hI hrel
  subst hk
  refine lv_istore hx hb dL_law_613 hl (by decide) rfl (fun ls hl => ?_)
  have hl : lv_has ls 7 [(6, .int r2), (5, .int (nI k1)), (0, .ref b), (1, .ref x), (2, .ref y), (3, .ref o), (4, .int (nI n))] := hl
  refine lv_aload_n hx hb dL_law_615 rfl (lv_at hl 4 rfl) ?_
  refine z_goe hw.2 (z_runV Cx hw (c_X8_thrown E l (Y1 ++ [(o, zoc E (zov ov k1 r1))]) C1 y ad sc2 g2) (cwV 0 Cx.1.2.2.2.2 gL_law_X8_thrown rfl rfl rfl (by decide +kernel) ⟨(Nat.le_of_ble_eq_true rfl), (Nat.le_of_ble_eq_true rfl)⟩) (z_recv Cx hw (r := (RX8, TX8, 26)) zM_x rfl) rfl hl.1 rfl (Nat.le_of_ble_eq_true rfl) dL_law_616 ⟨hc, hs⟩) (fun H locs hw => ?_)
  rw [hk2]
  refine lv_iload hx hb dL_law_619 (lv_at hl 1 rfl) ?_
  refine lv_icmp_eq (tgt := 626) hx hb dL_law_621 (by decide) (fun _ => ?_) (fun h => absurd rfl h)
  refine lv_iload hx hb dL_law_626 (lv_at hl 1 rfl) ?_
  have hend : W p l e room_1 s m #[Value.ref b] below meth c H locs (cells + 20 + 0 + 0) (slots + 200 + 0 + 0) Q (F0 m 643 ls []) := by
    refine lv_goto (tgt := 1551) hx hb dL_law_643 (by decide) ?_
    exact kk _ _ _ _ _ _ _ _ _ ls ⟨⟨hw.1.perm z_swap, hw.2⟩, hrc1, hT2, hI1, hE2⟩ (lv_sub hl [2, 3, 4, 5, 6] rfl)
  refine lv_if_ne (tgt := 643) hx hb dL_law_628 (by decide) (fun _ => hend) (fun h0 => ?_)
  have hk0 : k1 = 0 := zk_eq0 hk3 h0
  refine lv_aload_n hx hb dL_law_631 rfl (lv_at hl 5 rfl) ?_
  refine lv_iconst (v := 0) hx hb dL_law_632 (by decide) ?_
  refine zl_lald Cx hw dL_law_633 ?_
  rw [zov_0 hk0, hrr hk0]
  refine lv_iload hx hb dL_law_634 (lv_at hl 0 rfl) ?_
  refine lv_i2l hx hb dL_law_636 rfl ?_
  refine W.lcmp hx hb dL_law_637 ?_
  rw [lg_cmp_self]
  exact lv_if_eq (tgt := 643) hx hb dL_law_638 (by decide) (fun _ => hend) (fun h => absurd rfl h)

theorem zle_setGroup {V V' : zCl} {f g : Int32} {i : Bool} {c : Nat} {r : Int32} (h : zA_setGroup V f g i c r V') : c ≤ 3 := h.le (by decide) (fun ⟨_, _, _, _, _, _, _, h, _⟩ => by rw [h]; decide)
set_option maxRecDepth 100000 in
set_option maxHeartbeats 4000000 in
theorem law_setGroup {p : Program} {l : Launch} {e : Env} {s : State} {m : MethodId} {below : List Frame} {meth : Method} {c : Code} {Q : State → Prop} {E : zG} {b L : Nat} {xs : Nat → Int32} (hl0 : l.stackTraces = false) (Cx : zC E p s m #[Value.ref b] meth c RL cL_law wsL_law 7) (hnc : zNc s) (hX : va_X b L xs s s.heap) (hbl : b < s.heap.size) (hbA : ¬ eA E b) {n y x o cells slots : Nat} {ad : Nat → Nat} {sc : Nat → Int32} {g : Nat → Nat → Int32} {ov : Nat → Int64} {Y : va_W} {C : zLs} {V V2 : zCl} {H : Heap} {locs : List Loc} {ls : Array Slot} (hn : n + 9 ≤ L) (hL : L ≤ 4608) (hc : cells + 20 ≤ room_1.cells) (hs : slots + 200 ≤ room_1.slots) (St : zSt E y x o ad s sc g ov Y C V V2 H locs) (hl : lv_has ls 7 [(0, .ref b), (1, .ref x), (2, .ref y), (3, .ref o), (4, .int (nI n))])
    (kk : zKK p l e s m b below meth c Q E y x o ad n (cells + 20) (slots + 200) 1551) : W p l e room_1 s m #[Value.ref b] below meth c H locs cells slots Q (F0 m 646 ls []) := by
  obtain ⟨hw, hrc, hT, hI, hE⟩ := St
  have hx := Cx.1.1
  have hb := Cx.1.2.1
  have hI2 := zInv_eqv hI hE
  have hlN : (vN V).length ≤ 1000 := by rw [hE.1]; exact Nat.le_trans hT.1.1.2.1 (by omega)
  have hlS : (vS V).length ≤ 1000 := by rw [hE.len]; exact Nat.le_trans hT.1.2.1.2.1 (by omega)
  have hlH : (vH V).length ≤ 1000 := by rw [hE.2.2.1]; exact Nat.le_trans hT.1.2.2.1.2.1 (by omega)
  have hlG : (vG V).length ≤ 1000 := by rw [hE.2.2.2.2]; exact Nat.le_trans hT.1.2.2.2.2.2.1 (by omega)
  refine lv_aload_n hx hb dL_law_646 rfl (lv_at hl 1 rfl) ?_
  refine lv_aload_n hx hb dL_law_647 rfl (lv_at hl 0 rfl) ?_
  refine lv_iload hx hb dL_law_648 (lv_at hl 4 rfl) ?_
  refine lv_iconst (v := nI 1) hx hb dL_law_650 rfl ?_
  refine lv_iadd hx hb dL_law_651 ?_
  refine lv_topi (fun q651 e651 => ?_)
  rw [nI_add] at e651
  subst e651
  refine zl_sld Cx hX hbl hbA hw (show n + 1 < L by omega) hL dL_law_652 ?_
  refine lv_aload_n hx hb dL_law_653 rfl (lv_at hl 0 rfl) ?_
  refine lv_iload hx hb dL_law_654 (lv_at hl 4 rfl) ?_
  refine lv_iconst (v := nI 2) hx hb dL_law_656 rfl ?_
  refine lv_iadd hx hb dL_law_657 ?_
  refine lv_topi (fun q657 e657 => ?_)
  rw [nI_add] at e657
  subst e657
  refine zl_sld Cx hX hbl hbA hw (show n + 2 < L by omega) hL dL_law_658 ?_
  refine lv_aload_n hx hb dL_law_659 rfl (lv_at hl 0 rfl) ?_
  refine lv_iload hx hb dL_law_660 (lv_at hl 4 rfl) ?_
  refine lv_iconst (v := nI 3) hx hb dL_law_662 rfl ?_
  refine lv_iadd hx hb dL_law_663 ?_
  refine lv_topi (fun q663 e663 => ?_)
  rw [nI_add] at e663
  subst e663
  refine zl_sld Cx hX hbl hbA hw (show n + 3 < L by omega) hL dL_law_664 ?_
  refine zl_bool Cx dL_law_665 dL_law_668 dL_law_669 dL_law_672 ?_
  refine lv_aload_n hx hb dL_law_673 rfl (lv_at hl 3 rfl) ?_
  refine z_goi (wf := zWL E (zMw E y ad sc g) o ov) hw.2 (z_runSW Cx hnc hw (c_L_setGroup E l hl0 (zMw E y ad sc g) Y C x o ov V hrc (xs (n + 1)) (xs (n + 2)) (!decide (xs (n + 3) = 0))) (vx_cwSW 5 Cx.1.2.2.2.2 (zgs2 gL_law_L_setGroup) rfl rfl rfl (by decide +kernel) ⟨(Nat.le_of_ble_eq_true rfl), (Nat.le_of_ble_eq_true rfl)⟩) rfl hl.1 rfl (Nat.le_of_ble_eq_true rfl) dL_law_674 ⟨hc, hs⟩) (fun r u H locs hp hw => ?_)
  obtain ⟨⟨Y1, C1⟩, k1, r1, V1⟩ := u
  obtain ⟨hr1, hrel, hrc1⟩ := hp
  have hr1 : r = nI k1 := hr1
  subst hr1
  have hrel : zA_setGroup V (xs (n + 1)) (xs (n + 2)) (!decide (xs (n + 3) = 0)) k1 r1 V1 := hrel
  have hrc1 : zRC Y1 C1 x V1 := hrc1
  have hw : zHA E ((zMw E y ad sc g ++ [(o, zoc E (zov ov k1 r1))]) ++ Y1) C1 s H locs := hw
  have hk3 := zle_setGroup (V' := V1) hrel
  refine lv_istore hx hb dL_law_677 hl (by decide) rfl (fun ls hl => ?_)
  have hl : lv_has ls 7 [(5, .int (nI k1)), (0, .ref b), (1, .ref x), (2, .ref y), (3, .ref o), (4, .int (nI n))] := hl
  have hw : zHA E ((Y1 ++ [(o, zoc E (zov ov k1 r1))]) ++ zMw E y ad sc g) C1 s H locs := ⟨hw.1.perm z_swap, hw.2⟩
  refine lv_aload_n hx hb dL_law_679 rfl (lv_at hl 3 rfl) ?_
  refine lv_aload_n hx hb dL_law_680 rfl (lv_at hl 1 rfl) ?_
  refine lv_iload hx hb dL_law_681 (lv_at hl 5 rfl) ?_
  refine lv_iconst (v := nI 1) hx hb dL_law_683 rfl ?_
  refine lv_iadd hx hb dL_law_684 ?_
  refine lv_topi (fun q684 e684 => ?_)
  rw [nI_add] at e684
  subst e684
  refine zl_sld Cx hX hbl hbA hw (show n + 1 < L by omega) hL dL_law_685 ?_
  refine lv_aload_n hx hb dL_law_686 rfl (lv_at hl 1 rfl) ?_
  refine lv_iload hx hb dL_law_687 (lv_at hl 5 rfl) ?_
  refine lv_iconst (v := nI 2) hx hb dL_law_689 rfl ?_
  refine lv_iadd hx hb dL_law_690 ?_
  refine lv_topi (fun q690 e690 => ?_)
  rw [nI_add] at e690
  subst e690
  refine zl_sld Cx hX hbl hbA hw (show n + 2 < L by omega) hL dL_law_691 ?_
  refine lv_aload_n hx hb dL_law_692 rfl (lv_at hl 1 rfl) ?_
  refine lv_iload hx hb dL_law_693 (lv_at hl 5 rfl) ?_
  refine lv_iconst (v := nI 3) hx hb dL_law_695 rfl ?_
  refine lv_iadd hx hb dL_law_696 ?_
  refine lv_topi (fun q696 e696 => ?_)
  rw [nI_add] at e696
  subst e696
  refine zl_sld Cx hX hbl hbA hw (show n + 3 < L by omega) hL dL_law_697 ?_
  refine zl_bool Cx dL_law_698 dL_law_701 dL_law_702 dL_law_705 ?_
  refine z_goi (wf := fun (u : zU) => zQ E ((Y1 ++ [(o, zoc E (zov ov k1 r1))]) ++ zMw E y ad u.2.1 u.2.2.1) C1) hw.2 (z_runV Cx hw (c_m_setGroup E l (Y1 ++ [(o, zoc E (zov ov k1 r1))]) C1 y ad sc g V2 hT hI2 (xs (n + 1)) (xs (n + 2)) (!decide (xs (n + 3) = 0))) (cwV 3 Cx.1.2.2.2.2 gL_law_X8_setGroup rfl rfl rfl (by decide +kernel) ⟨(Nat.le_of_ble_eq_true rfl), (Nat.le_of_ble_eq_true rfl)⟩) (z_recv Cx hw (r := (RX8, TX8, 26)) zM_x rfl) rfl hl.1 rfl (Nat.le_of_ble_eq_true rfl) dL_law_706 ⟨hc, hs⟩) (fun r2 u H locs hp hw => ?_)
  obtain ⟨k2, sc2, g2, W2⟩ := u
  obtain ⟨hrel2, hT2, hk2⟩ := hp
  have hrel2 : zA_setGroup V2 (xs (n + 1)) (xs (n + 2)) (!decide (xs (n + 3) = 0)) k2 r2 W2 := hrel2
  have hT2 : zMT sc2 g2 W2 := hT2
  have hk2 : sc2 0 = nI k2 := hk2
  have hw : zHA E ((Y1 ++ [(o, zoc E (zov ov k1 r1))]) ++ zMw E y ad sc2 g2) C1 s H locs := hw
  obtain ⟨hk, hrr, hE2⟩ := zd_setGroup hE hlH hrel hrel2
  have hI1 := zk_setGroup hI hrel
  subst hk
  refine lv_istore hx hb dL_law_709 hl (by decide) rfl (fun ls hl => ?_)
  have hl : lv_has ls 7 [(6, .int r2), (5, .int (nI k1)), (0, .ref b), (1, .ref x), (2, .ref y), (3, .ref o), (4, .int (nI n))] := hl
  refine lv_aload_n hx hb dL_law_711 rfl (lv_at hl 4 rfl) ?_
  refine z_goe hw.2 (z_runV Cx hw (c_X8_thrown E l (Y1 ++ [(o, zoc E (zov ov k1 r1))]) C1 y ad sc2 g2) (cwV 0 Cx.1.2.2.2.2 gL_law_X8_thrown rfl rfl rfl (by decide +kernel) ⟨(Nat.le_of_ble_eq_true rfl), (Nat.le_of_ble_eq_true rfl)⟩) (z_recv Cx hw (r := (RX8, TX8, 26)) zM_x rfl) rfl hl.1 rfl (Nat.le_of_ble_eq_true rfl) dL_law_712 ⟨hc, hs⟩) (fun H locs hw => ?_)
  rw [hk2]
  refine lv_iload hx hb dL_law_715 (lv_at hl 1 rfl) ?_
  refine lv_icmp_eq (tgt := 722) hx hb dL_law_717 (by decide) (fun _ => ?_) (fun h => absurd rfl h)
  refine lv_iload hx hb dL_law_722 (lv_at hl 1 rfl) ?_
  have hend : W p l e room_1 s m #[Value.ref b] below meth c H locs (cells + 20 + 0 + 0) (slots + 200 + 0 + 0) Q (F0 m 746 ls []) := by
    refine lv_goto (tgt := 1551) hx hb dL_law_746 (by decide) ?_
    exact kk _ _ _ _ _ _ _ _ _ ls ⟨⟨hw.1.perm z_swap, hw.2⟩, hrc1, hT2, hI1, hE2⟩ (lv_sub hl [2, 3, 4, 5, 6] rfl)
  refine lv_if_ne (tgt := 746) hx hb dL_law_724 (by decide) (fun _ => hend) (fun h0 => ?_)
  have hk0 : k1 = 0 := zk_eq0 hk3 h0
  refine lv_aload_n hx hb dL_law_727 rfl (lv_at hl 5 rfl) ?_
  refine lv_iconst (v := 0) hx hb dL_law_728 (by decide) ?_
  refine zl_lald Cx hw dL_law_729 ?_
  rw [zov_0 hk0, hrr hk0]
  refine lv_iload hx hb dL_law_730 (lv_at hl 0 rfl) ?_
  have hrb : r2 = 0 ∨ r2 = 1 := by
    have h8 := hrr hk0
    rcases hrel with ⟨h9, -⟩ | ⟨-, _, _, _, _, _, _, _, _, _, h9⟩
    · omega
    · rw [← h8, h9]
      exact (by decide : ∀ q : Bool, zb q = 0 ∨ zb q = 1) _
  have hbool : W p l e room_1 s m #[Value.ref b] below meth c H locs (cells + 20 + 0 + 0) (slots + 200 + 0 + 0) Q (F0 m 740 ls [.long r2.toInt64, .long r2.toInt64]) → W p l e room_1 s m #[Value.ref b] below meth c H locs (cells + 20 + 0 + 0) (slots + 200 + 0 + 0) Q (F0 m 732 ls [.int r2, .long r2.toInt64]) := by
    intro hk
    refine lv_if_eq (tgt := 739) hx hb dL_law_732 (by decide) (fun h => ?_) (fun h => ?_)
    · exact lv_lconst (v := r2.toInt64) hx hb dL_law_739 (by rw [h]; rfl) hk
    · refine lv_lconst (v := r2.toInt64) hx hb dL_law_735 (by rw [hrb.resolve_left h]; rfl) ?_
      exact lv_goto (tgt := 740) hx hb dL_law_736 (by decide) hk
  refine hbool ?_
  refine W.lcmp hx hb dL_law_740 ?_
  rw [lg_cmp_self]
  exact lv_if_eq (tgt := 746) hx hb dL_law_741 (by decide) (fun _ => hend) (fun h => absurd rfl h)

theorem zle_putRule {V V' : zCl} {f pl : Int32} {i al : Bool} {b z fp la : Int32} {c : Nat} {r : Int32} (h : zA_putRule V f pl i al b z fp la c r V') : c ≤ 3 := h.le (by decide) (fun ⟨_, _, _, _, h⟩ => h.le (by decide) (fun h => h.le (by decide) (fun h => by rw [h.1]; decide)))
set_option maxRecDepth 100000 in
set_option maxHeartbeats 4000000 in
theorem law_putRule {p : Program} {l : Launch} {e : Env} {s : State} {m : MethodId} {below : List Frame} {meth : Method} {c : Code} {Q : State → Prop} {E : zG} {b L : Nat} {xs : Nat → Int32} (hl0 : l.stackTraces = false) (Cx : zC E p s m #[Value.ref b] meth c RL cL_law wsL_law 7) (hnc : zNc s) (hX : va_X b L xs s s.heap) (hbl : b < s.heap.size) (hbA : ¬ eA E b) {n y x o cells slots : Nat} {ad : Nat → Nat} {sc : Nat → Int32} {g : Nat → Nat → Int32} {ov : Nat → Int64} {Y : va_W} {C : zLs} {V V2 : zCl} {H : Heap} {locs : List Loc} {ls : Array Slot} (hn : n + 9 ≤ L) (hL : L ≤ 4608) (hc : cells + 20 ≤ room_1.cells) (hs : slots + 200 ≤ room_1.slots) (St : zSt E y x o ad s sc g ov Y C V V2 H locs) (hl : lv_has ls 7 [(0, .ref b), (1, .ref x), (2, .ref y), (3, .ref o), (4, .int (nI n))])
    (kk : zKK p l e s m b below meth c Q E y x o ad n (cells + 20) (slots + 200) 1551) : W p l e room_1 s m #[Value.ref b] below meth c H locs cells slots Q (F0 m 749 ls []) := by
  obtain ⟨hw, hrc, hT, hI, hE⟩ := St
  have hx := Cx.1.1
  have hb := Cx.1.2.1
  have hI2 := zInv_eqv hI hE
  have hlN : (vN V).length ≤ 1000 := by rw [hE.1]; exact Nat.le_trans hT.1.1.2.1 (by omega)
  have hlS : (vS V).length ≤ 1000 := by rw [hE.len]; exact Nat.le_trans hT.1.2.1.2.1 (by omega)
  have hlH : (vH V).length ≤ 1000 := by rw [hE.2.2.1]; exact Nat.le_trans hT.1.2.2.1.2.1 (by omega)
  have hlG : (vG V).length ≤ 1000 := by rw [hE.2.2.2.2]; exact Nat.le_trans hT.1.2.2.2.2.2.1 (by omega)
  have hlR : ∀ v ∈ vS V, v.2.2.1.length ≤ 900 := fun v hv => by
    obtain ⟨i, hi⟩ := List.getElem?_of_mem hv
    obtain ⟨v2, hv2, -, -, e3, -⟩ := hE.symm.mem hi
    rw [← e3]
    exact Nat.le_trans (hT.1.2.1.2.2 i v2 hv2).2.2.1.2.1 (by omega)
  refine lv_aload_n hx hb dL_law_749 rfl (lv_at hl 1 rfl) ?_
  refine lv_aload_n hx hb dL_law_750 rfl (lv_at hl 0 rfl) ?_
  refine lv_iload hx hb dL_law_751 (lv_at hl 4 rfl) ?_
  refine lv_iconst (v := nI 1) hx hb dL_law_753 rfl ?_
  refine lv_iadd hx hb dL_law_754 ?_
  refine lv_topi (fun q754 e754 => ?_)
  rw [nI_add] at e754
  subst e754
  refine zl_sld Cx hX hbl hbA hw (show n + 1 < L by omega) hL dL_law_755 ?_
  refine lv_aload_n hx hb dL_law_756 rfl (lv_at hl 0 rfl) ?_
  refine lv_iload hx hb dL_law_757 (lv_at hl 4 rfl) ?_
  refine lv_iconst (v := nI 2) hx hb dL_law_759 rfl ?_
  refine lv_iadd hx hb dL_law_760 ?_
  refine lv_topi (fun q760 e760 => ?_)
  rw [nI_add] at e760
  subst e760
  refine zl_sld Cx hX hbl hbA hw (show n + 2 < L by omega) hL dL_law_761 ?_
  refine lv_aload_n hx hb dL_law_762 rfl (lv_at hl 0 rfl) ?_
  refine lv_iload hx hb dL_law_763 (lv_at hl 4 rfl) ?_
  refine lv_iconst (v := nI 3) hx hb dL_law_765 rfl ?_
  refine lv_iadd hx hb dL_law_766 ?_
  refine lv_topi (fun q766 e766 => ?_)
  rw [nI_add] at e766
  subst e766
  refine zl_sld Cx hX hbl hbA hw (show n + 3 < L by omega) hL dL_law_767 ?_
  refine zl_bool Cx dL_law_768 dL_law_771 dL_law_772 dL_law_775 ?_
  refine lv_aload_n hx hb dL_law_776 rfl (lv_at hl 0 rfl) ?_
  refine lv_iload hx hb dL_law_777 (lv_at hl 4 rfl) ?_
  refine lv_iconst (v := nI 4) hx hb dL_law_779 rfl ?_
  refine lv_iadd hx hb dL_law_780 ?_
  refine lv_topi (fun q780 e780 => ?_)
  rw [nI_add] at e780
  subst e780
  refine zl_sld Cx hX hbl hbA hw (show n + 4 < L by omega) hL dL_law_781 ?_
  refine zl_bool Cx dL_law_782 dL_law_785 dL_law_786 dL_law_789 ?_
  refine lv_aload_n hx hb dL_law_790 rfl (lv_at hl 0 rfl) ?_
  refine lv_iload hx hb dL_law_791 (lv_at hl 4 rfl) ?_
  refine lv_iconst (v := nI 5) hx hb dL_law_793 rfl ?_
  refine lv_iadd hx hb dL_law_794 ?_
  refine lv_topi (fun q794 e794 => ?_)
  rw [nI_add] at e794
  subst e794
  refine zl_sld Cx hX hbl hbA hw (show n + 5 < L by omega) hL dL_law_795 ?_
  refine lv_aload_n hx hb dL_law_796 rfl (lv_at hl 0 rfl) ?_
  refine lv_iload hx hb dL_law_797 (lv_at hl 4 rfl) ?_
  refine lv_bipush (v := nI 6) hx hb dL_law_799 rfl ?_
  refine lv_iadd hx hb dL_law_801 ?_
  refine lv_topi (fun q801 e801 => ?_)
  rw [nI_add] at e801
  subst e801
  refine zl_sld Cx hX hbl hbA hw (show n + 6 < L by omega) hL dL_law_802 ?_
  refine lv_aload_n hx hb dL_law_803 rfl (lv_at hl 0 rfl) ?_
  refine lv_iload hx hb dL_law_804 (lv_at hl 4 rfl) ?_
  refine lv_bipush (v := nI 7) hx hb dL_law_806 rfl ?_
  refine lv_iadd hx hb dL_law_808 ?_
  refine lv_topi (fun q808 e808 => ?_)
  rw [nI_add] at e808
  subst e808
  refine zl_sld Cx hX hbl hbA hw (show n + 7 < L by omega) hL dL_law_809 ?_
  refine lv_aload_n hx hb dL_law_810 rfl (lv_at hl 0 rfl) ?_
  refine lv_iload hx hb dL_law_811 (lv_at hl 4 rfl) ?_
  refine lv_bipush (v := nI 8) hx hb dL_law_813 rfl ?_
  refine lv_iadd hx hb dL_law_815 ?_
  refine lv_topi (fun q815 e815 => ?_)
  rw [nI_add] at e815
  subst e815
  refine zl_sld Cx hX hbl hbA hw (show n + 8 < L by omega) hL dL_law_816 ?_
  refine lv_aload_n hx hb dL_law_817 rfl (lv_at hl 3 rfl) ?_
  refine z_goi (wf := zWL E (zMw E y ad sc g) o ov) hw.2 (z_runSW Cx hnc hw (c_L_putRule E l hl0 (zMw E y ad sc g) Y C x o ov V hrc (xs (n + 1)) (xs (n + 2)) (!decide (xs (n + 3) = 0)) (!decide (xs (n + 4) = 0)) (xs (n + 5)) (xs (n + 6)) (xs (n + 7)) (xs (n + 8))) (vx_cwSW 10 Cx.1.2.2.2.2 (zgs2 gL_law_L_putRule) rfl rfl rfl (by decide +kernel) ⟨(Nat.le_of_ble_eq_true rfl), (Nat.le_of_ble_eq_true rfl)⟩) rfl hl.1 rfl (Nat.le_of_ble_eq_true rfl) dL_law_818 ⟨hc, hs⟩) (fun r u H locs hp hw => ?_)
  obtain ⟨⟨Y1, C1⟩, k1, r1, V1⟩ := u
  obtain ⟨hr1, hrel, hrc1⟩ := hp
  have hr1 : r = nI k1 := hr1
  subst hr1
  have hrel : zA_putRule V (xs (n + 1)) (xs (n + 2)) (!decide (xs (n + 3) = 0)) (!decide (xs (n + 4) = 0)) (xs (n + 5)) (xs (n + 6)) (xs (n + 7)) (xs (n + 8)) k1 r1 V1 := hrel
  have hrc1 : zRC Y1 C1 x V1 := hrc1
  have hw : zHA E ((zMw E y ad sc g ++ [(o, zoc E (zov ov k1 r1))]) ++ Y1) C1 s H locs := hw
  have hk3 := zle_putRule (V' := V1) hrel
  refine lv_istore hx hb dL_law_821 hl (by decide) rfl (fun ls hl => ?_)
  have hl : lv_has ls 7 [(5, .int (nI k1)), (0, .ref b), (1, .ref x), (2, .ref y), (3, .ref o), (4, .int (nI n))] := hl
  have hw : zHA E ((Y1 ++ [(o, zoc E (zov ov k1 r1))]) ++ zMw E y ad sc g) C1 s H locs := ⟨hw.1.perm z_swap, hw.2⟩
  refine lv_aload_n hx hb dL_law_823 rfl (lv_at hl 3 rfl) ?_
  refine lv_aload_n hx hb dL_law_824 rfl (lv_at hl 1 rfl) ?_
  refine lv_iload hx hb dL_law_825 (lv_at hl 5 rfl) ?_
  refine lv_iconst (v := nI 1) hx hb dL_law_827 rfl ?_
  refine lv_iadd hx hb dL_law_828 ?_
  refine lv_topi (fun q828 e828 => ?_)
  rw [nI_add] at e828
  subst e828
  refine zl_sld Cx hX hbl hbA hw (show n + 1 < L by omega) hL dL_law_829 ?_
  refine lv_aload_n hx hb dL_law_830 rfl (lv_at hl 1 rfl) ?_
  refine lv_iload hx hb dL_law_831 (lv_at hl 5 rfl) ?_
  refine lv_iconst (v := nI 2) hx hb dL_law_833 rfl ?_
  refine lv_iadd hx hb dL_law_834 ?_
  refine lv_topi (fun q834 e834 => ?_)
  rw [nI_add] at e834
  subst e834
  refine zl_sld Cx hX hbl hbA hw (show n + 2 < L by omega) hL dL_law_835 ?_
  refine lv_aload_n hx hb dL_law_836 rfl (lv_at hl 1 rfl) ?_
  refine lv_iload hx hb dL_law_837 (lv_at hl 5 rfl) ?_
  refine lv_iconst (v := nI 3) hx hb dL_law_839 rfl ?_
  refine lv_iadd hx hb dL_law_840 ?_
  refine lv_topi (fun q840 e840 => ?_)
  rw [nI_add] at e840
  subst e840
  refine zl_sld Cx hX hbl hbA hw (show n + 3 < L by omega) hL dL_law_841 ?_
  refine zl_bool Cx dL_law_842 dL_law_845 dL_law_846 dL_law_849 ?_
  refine lv_aload_n hx hb dL_law_850 rfl (lv_at hl 1 rfl) ?_
  refine lv_iload hx hb dL_law_851 (lv_at hl 5 rfl) ?_
  refine lv_iconst (v := nI 4) hx hb dL_law_853 rfl ?_
  refine lv_iadd hx hb dL_law_854 ?_
  refine lv_topi (fun q854 e854 => ?_)
  rw [nI_add] at e854
  subst e854
  refine zl_sld Cx hX hbl hbA hw (show n + 4 < L by omega) hL dL_law_855 ?_
  refine zl_bool Cx dL_law_856 dL_law_859 dL_law_860 dL_law_863 ?_
  refine lv_aload_n hx hb dL_law_864 rfl (lv_at hl 1 rfl) ?_
  refine lv_iload hx hb dL_law_865 (lv_at hl 5 rfl) ?_
  refine lv_iconst (v := nI 5) hx hb dL_law_867 rfl ?_
  refine lv_iadd hx hb dL_law_868 ?_
  refine lv_topi (fun q868 e868 => ?_)
  rw [nI_add] at e868
  subst e868
  refine zl_sld Cx hX hbl hbA hw (show n + 5 < L by omega) hL dL_law_869 ?_
  refine lv_aload_n hx hb dL_law_870 rfl (lv_at hl 1 rfl) ?_
  refine lv_iload hx hb dL_law_871 (lv_at hl 5 rfl) ?_
  refine lv_bipush (v := nI 6) hx hb dL_law_873 rfl ?_
  refine lv_iadd hx hb dL_law_875 ?_
  refine lv_topi (fun q875 e875 => ?_)
  rw [nI_add] at e875
  subst e875
  refine zl_sld Cx hX hbl hbA hw (show n + 6 < L by omega) hL dL_law_876 ?_
  refine lv_aload_n hx hb dL_law_877 rfl (lv_at hl 1 rfl) ?_
  refine lv_iload hx hb dL_law_878 (lv_at hl 5 rfl) ?_
  refine lv_bipush (v := nI 7) hx hb dL_law_880 rfl ?_
  refine lv_iadd hx hb dL_law_882 ?_
  refine lv_topi (fun q882 e882 => ?_)
  rw [nI_add] at e882
  subst e882
  refine zl_sld Cx hX hbl hbA hw (show n + 7 < L by omega) hL dL_law_883 ?_
  refine lv_aload_n hx hb dL_law_884 rfl (lv_at hl 1 rfl) ?_
  refine lv_iload hx hb dL_law_885 (lv_at hl 5 rfl) ?_
  refine lv_bipush (v := nI 8) hx hb dL_law_887 rfl ?_
  refine lv_iadd hx hb dL_law_889 ?_
  refine lv_topi (fun q889 e889 => ?_)
  rw [nI_add] at e889
  subst e889
  refine zl_sld Cx hX hbl hbA hw (show n + 8 < L by omega) hL dL_law_890 ?_
  refine z_goi (wf := fun (u : zU) => zQ E ((Y1 ++ [(o, zoc E (zov ov k1 r1))]) ++ zMw E y ad u.2.1 u.2.2.1) C1) hw.2 (z_runV Cx hw (c_m_putRule E l (Y1 ++ [(o, zoc E (zov ov k1 r1))]) C1 y ad sc g V2 hT hI2 (xs (n + 1)) (xs (n + 2)) (!decide (xs (n + 3) = 0)) (!decide (xs (n + 4) = 0)) (xs (n + 5)) (xs (n + 6)) (xs (n + 7)) (xs (n + 8))) (cwV 8 Cx.1.2.2.2.2 gL_law_X8_putRule rfl rfl rfl (by decide +kernel) ⟨(Nat.le_of_ble_eq_true rfl), (Nat.le_of_ble_eq_true rfl)⟩) (z_recv Cx hw (r := (RX8, TX8, 26)) zM_x rfl) rfl hl.1 rfl (Nat.le_of_ble_eq_true rfl) dL_law_891 ⟨hc, hs⟩) (fun r2 u H locs hp hw => ?_)
  obtain ⟨k2, sc2, g2, W2⟩ := u
  obtain ⟨hrel2, hT2, hk2⟩ := hp
  have hrel2 : zA_putRule V2 (xs (n + 1)) (xs (n + 2)) (!decide (xs (n + 3) = 0)) (!decide (xs (n + 4) = 0)) (xs (n + 5)) (xs (n + 6)) (xs (n + 7)) (xs (n + 8)) k2 r2 W2 := hrel2
  have hT2 : zMT sc2 g2 W2 := hT2
  have hk2 : sc2 0 = nI k2 := hk2
  have hw : zHA E ((Y1 ++ [(o, zoc E (zov ov k1 r1))]) ++ zMw E y ad sc2 g2) C1 s H locs := hw
  obtain ⟨hk, hrr, hE2⟩ := zd_putRule hE hlS hlR hrel hrel2
  have hI1 := zk_putRule hI hrel
  subst hk
  refine lv_istore hx hb dL_law_894 hl (by decide) rfl (fun ls hl => ?_)
  have hl : lv_has ls 7 [(6, .int r2), (5, .int (nI k1)), (0, .ref b), (1, .ref x), (2, .ref y), (3, .ref o), (4, .int (nI n))] := hl
  refine lv_aload_n hx hb dL_law_896 rfl (lv_at hl 4 rfl) ?_
  refine z_goe hw.2 (z_runV Cx hw (c_X8_thrown E l (Y1 ++ [(o, zoc E (zov ov k1 r1))]) C1 y ad sc2 g2) (cwV 0 Cx.1.2.2.2.2 gL_law_X8_thrown rfl rfl rfl (by decide +kernel) ⟨(Nat.le_of_ble_eq_true rfl), (Nat.le_of_ble_eq_true rfl)⟩) (z_recv Cx hw (r := (RX8, TX8, 26)) zM_x rfl) rfl hl.1 rfl (Nat.le_of_ble_eq_true rfl) dL_law_897 ⟨hc, hs⟩) (fun H locs hw => ?_)
  rw [hk2]
  refine lv_iload hx hb dL_law_900 (lv_at hl 1 rfl) ?_
  refine lv_icmp_eq (tgt := 907) hx hb dL_law_902 (by decide) (fun _ => ?_) (fun h => absurd rfl h)
  refine lv_iload hx hb dL_law_907 (lv_at hl 1 rfl) ?_
  have hend : W p l e room_1 s m #[Value.ref b] below meth c H locs (cells + 20 + 0 + 0) (slots + 200 + 0 + 0) Q (F0 m 924 ls []) := by
    refine lv_goto (tgt := 1551) hx hb dL_law_924 (by decide) ?_
    exact kk _ _ _ _ _ _ _ _ _ ls ⟨⟨hw.1.perm z_swap, hw.2⟩, hrc1, hT2, hI1, hE2⟩ (lv_sub hl [2, 3, 4, 5, 6] rfl)
  refine lv_if_ne (tgt := 924) hx hb dL_law_909 (by decide) (fun _ => hend) (fun h0 => ?_)
  have hk0 : k1 = 0 := zk_eq0 hk3 h0
  refine lv_aload_n hx hb dL_law_912 rfl (lv_at hl 5 rfl) ?_
  refine lv_iconst (v := 0) hx hb dL_law_913 (by decide) ?_
  refine zl_lald Cx hw dL_law_914 ?_
  rw [zov_0 hk0, hrr hk0]
  refine lv_iload hx hb dL_law_915 (lv_at hl 0 rfl) ?_
  refine lv_i2l hx hb dL_law_917 rfl ?_
  refine W.lcmp hx hb dL_law_918 ?_
  rw [lg_cmp_self]
  exact lv_if_eq (tgt := 924) hx hb dL_law_919 (by decide) (fun _ => hend) (fun h => absurd rfl h)


theorem zle_blockedBy {V V' : zCl} {f t p0 : Int32} {c : Nat} {r : Int32} (h : zA_blockedBy V f t p0 c r) : c ≤ 3 := by
  rcases h with ⟨e, -⟩ | ⟨e, -⟩ | ⟨e, -⟩ <;> omega
set_option maxRecDepth 100000 in
set_option maxHeartbeats 4000000 in
theorem law_blockedBy {p : Program} {l : Launch} {e : Env} {s : State} {m : MethodId} {below : List Frame} {meth : Method} {c : Code} {Q : State → Prop} {E : zG} {b L : Nat} {xs : Nat → Int32} (hl0 : l.stackTraces = false) (Cx : zC E p s m #[Value.ref b] meth c RL cL_law wsL_law 7) (hnc : zNc s) (hX : va_X b L xs s s.heap) (hbl : b < s.heap.size) (hbA : ¬ eA E b) {n y x o cells slots : Nat} {ad : Nat → Nat} {sc : Nat → Int32} {g : Nat → Nat → Int32} {ov : Nat → Int64} {Y : va_W} {C : zLs} {V V2 : zCl} {H : Heap} {locs : List Loc} {ls : Array Slot} (hn : n + 9 ≤ L) (hL : L ≤ 4608) (hc : cells + 20 ≤ room_1.cells) (hs : slots + 200 ≤ room_1.slots) (St : zSt E y x o ad s sc g ov Y C V V2 H locs) (hl : lv_has ls 7 [(0, .ref b), (1, .ref x), (2, .ref y), (3, .ref o), (4, .int (nI n))])
    (kk : zKK p l e s m b below meth c Q E y x o ad n (cells + 20) (slots + 200) 1551) : W p l e room_1 s m #[Value.ref b] below meth c H locs cells slots Q (F0 m 1223 ls []) := by
  obtain ⟨hw, hrc, hT, hI, hE⟩ := St
  have hx := Cx.1.1
  have hb := Cx.1.2.1
  have hI2 := zInv_eqv hI hE
  have hlN : (vN V).length ≤ 1000 := by rw [hE.1]; exact Nat.le_trans hT.1.1.2.1 (by omega)
  have hlS : (vS V).length ≤ 1000 := by rw [hE.len]; exact Nat.le_trans hT.1.2.1.2.1 (by omega)
  have hlH : (vH V).length ≤ 1000 := by rw [hE.2.2.1]; exact Nat.le_trans hT.1.2.2.1.2.1 (by omega)
  have hlG : (vG V).length ≤ 1000 := by rw [hE.2.2.2.2]; exact Nat.le_trans hT.1.2.2.2.2.2.1 (by omega)
  refine lv_aload_n hx hb dL_law_1223 rfl (lv_at hl 1 rfl) ?_
  refine lv_aload_n hx hb dL_law_1224 rfl (lv_at hl 0 rfl) ?_
  refine lv_iload hx hb dL_law_1225 (lv_at hl 4 rfl) ?_
  refine lv_iconst (v := nI 1) hx hb dL_law_1227 rfl ?_
  refine lv_iadd hx hb dL_law_1228 ?_
  refine lv_topi (fun q1228 e1228 => ?_)
  rw [nI_add] at e1228
  subst e1228
  refine zl_sld Cx hX hbl hbA hw (show n + 1 < L by omega) hL dL_law_1229 ?_
  refine lv_aload_n hx hb dL_law_1230 rfl (lv_at hl 0 rfl) ?_
  refine lv_iload hx hb dL_law_1231 (lv_at hl 4 rfl) ?_
  refine lv_iconst (v := nI 2) hx hb dL_law_1233 rfl ?_
  refine lv_iadd hx hb dL_law_1234 ?_
  refine lv_topi (fun q1234 e1234 => ?_)
  rw [nI_add] at e1234
  subst e1234
  refine zl_sld Cx hX hbl hbA hw (show n + 2 < L by omega) hL dL_law_1235 ?_
  refine lv_aload_n hx hb dL_law_1236 rfl (lv_at hl 0 rfl) ?_
  refine lv_iload hx hb dL_law_1237 (lv_at hl 4 rfl) ?_
  refine lv_iconst (v := nI 3) hx hb dL_law_1239 rfl ?_
  refine lv_iadd hx hb dL_law_1240 ?_
  refine lv_topi (fun q1240 e1240 => ?_)
  rw [nI_add] at e1240
  subst e1240
  refine zl_sld Cx hX hbl hbA hw (show n + 3 < L by omega) hL dL_law_1241 ?_
  refine lv_aload_n hx hb dL_law_1242 rfl (lv_at hl 3 rfl) ?_
  refine z_goi (wf := zWL E (zMw E y ad sc g) o ov) hw.2 (z_runSW Cx hnc hw (c_L_blockedBy E l hl0 (zMw E y ad sc g) Y C x o ov V hrc (xs (n + 1)) (xs (n + 2)) (xs (n + 3))) (vx_cwSW 5 Cx.1.2.2.2.2 (zgs2 gL_law_L_blockedBy) rfl rfl rfl (by decide +kernel) ⟨(Nat.le_of_ble_eq_true rfl), (Nat.le_of_ble_eq_true rfl)⟩) rfl hl.1 rfl (Nat.le_of_ble_eq_true rfl) dL_law_1243 ⟨hc, hs⟩) (fun r u H locs hp hw => ?_)
  obtain ⟨⟨Y1, C1⟩, k1, r1, V1⟩ := u
  obtain ⟨hr1, hrel, hrc1⟩ := hp
  have hr1 : r = nI k1 := hr1
  subst hr1
  have hrel : V1 = V ∧ zA_blockedBy V (xs (n + 1)) (xs (n + 2)) (xs (n + 3)) k1 r1 := hrel
  have hrc1 : zRC Y1 C1 x V1 := hrc1
  have hw : zHA E ((zMw E y ad sc g ++ [(o, zoc E (zov ov k1 r1))]) ++ Y1) C1 s H locs := hw
  obtain ⟨rfl, hrel⟩ := hrel
  have hk3 := zle_blockedBy (V' := V1) hrel
  refine lv_istore hx hb dL_law_1246 hl (by decide) rfl (fun ls hl => ?_)
  have hl : lv_has ls 7 [(5, .int (nI k1)), (0, .ref b), (1, .ref x), (2, .ref y), (3, .ref o), (4, .int (nI n))] := hl
  have hw : zHA E ((Y1 ++ [(o, zoc E (zov ov k1 r1))]) ++ zMw E y ad sc g) C1 s H locs := ⟨hw.1.perm z_swap, hw.2⟩
  refine lv_aload_n hx hb dL_law_1248 rfl (lv_at hl 3 rfl) ?_
  refine lv_aload_n hx hb dL_law_1249 rfl (lv_at hl 1 rfl) ?_
  refine lv_iload hx hb dL_law_1250 (lv_at hl 5 rfl) ?_
  refine lv_iconst (v := nI 1) hx hb dL_law_1252 rfl ?_
  refine lv_iadd hx hb dL_law_1253 ?_
  refine lv_topi (fun q1253 e1253 => ?_)
  rw [nI_add] at e1253
  subst e1253
  refine zl_sld Cx hX hbl hbA hw (show n + 1 < L by omega) hL dL_law_1254 ?_
  refine lv_aload_n hx hb dL_law_1255 rfl (lv_at hl 1 rfl) ?_
  refine lv_iload hx hb dL_law_1256 (lv_at hl 5 rfl) ?_
  refine lv_iconst (v := nI 2) hx hb dL_law_1258 rfl ?_
  refine lv_iadd hx hb dL_law_1259 ?_
  refine lv_topi (fun q1259 e1259 => ?_)
  rw [nI_add] at e1259
  subst e1259
  refine zl_sld Cx hX hbl hbA hw (show n + 2 < L by omega) hL dL_law_1260 ?_
  refine lv_aload_n hx hb dL_law_1261 rfl (lv_at hl 1 rfl) ?_
  refine lv_iload hx hb dL_law_1262 (lv_at hl 5 rfl) ?_
  refine lv_iconst (v := nI 3) hx hb dL_law_1264 rfl ?_
  refine lv_iadd hx hb dL_law_1265 ?_
  refine lv_topi (fun q1265 e1265 => ?_)
  rw [nI_add] at e1265
  subst e1265
  refine zl_sld Cx hX hbl hbA hw (show n + 3 < L by omega) hL dL_law_1266 ?_
  refine z_goi (wf := fun (c : Nat) => zQ E ((Y1 ++ [(o, zoc E (zov ov k1 r1))]) ++ zMw E y ad (va_up sc 0 (nI c)) g) C1) hw.2 (z_runV Cx hw (c_m_blockedBy E l (Y1 ++ [(o, zoc E (zov ov k1 r1))]) C1 y ad sc g V2 hT.1 hI2 (xs (n + 1)) (xs (n + 2)) (xs (n + 3))) (cwV 3 Cx.1.2.2.2.2 gL_law_X8_blockedBy rfl rfl rfl (by decide +kernel) ⟨(Nat.le_of_ble_eq_true rfl), (Nat.le_of_ble_eq_true rfl)⟩) (z_recv Cx hw (r := (RX8, TX8, 26)) zM_x rfl) rfl hl.1 rfl (Nat.le_of_ble_eq_true rfl) dL_law_1267 ⟨hc, hs⟩) (fun r2 k2 H locs hp hw => ?_)
  have hrel2 : zA_blockedBy V2 (xs (n + 1)) (xs (n + 2)) (xs (n + 3)) k2 r2 := hp
  obtain ⟨hk, hrr, hE2⟩ := zd_blockedBy hI hE hlH hrel hrel2
  have hI1 := hI
  subst hk
  obtain ⟨sc2, hs2⟩ : ∃ sc2, sc2 = va_up sc 0 (nI k1) := ⟨_, rfl⟩
  have hT2 : zMT sc2 g V2 := by rw [hs2]; exact zMT_0 hT _
  have hk2 : sc2 0 = nI k1 := by rw [hs2]; exact va_up_self _ _ _
  have hw : zHA E ((Y1 ++ [(o, zoc E (zov ov k1 r1))]) ++ zMw E y ad sc2 g) C1 s H locs := by rw [hs2]; exact hw
  refine lv_istore hx hb dL_law_1270 hl (by decide) rfl (fun ls hl => ?_)
  have hl : lv_has ls 7 [(6, .int r2), (5, .int (nI k1)), (0, .ref b), (1, .ref x), (2, .ref y), (3, .ref o), (4, .int (nI n))] := hl
  refine lv_aload_n hx hb dL_law_1272 rfl (lv_at hl 4 rfl) ?_
  refine z_goe hw.2 (z_runV Cx hw (c_X8_thrown E l (Y1 ++ [(o, zoc E (zov ov k1 r1))]) C1 y ad sc2 g) (cwV 0 Cx.1.2.2.2.2 gL_law_X8_thrown rfl rfl rfl (by decide +kernel) ⟨(Nat.le_of_ble_eq_true rfl), (Nat.le_of_ble_eq_true rfl)⟩) (z_recv Cx hw (r := (RX8, TX8, 26)) zM_x rfl) rfl hl.1 rfl (Nat.le_of_ble_eq_true rfl) dL_law_1273 ⟨hc, hs⟩) (fun H locs hw => ?_)
  rw [hk2]
  refine lv_iload hx hb dL_law_1276 (lv_at hl 1 rfl) ?_
  refine lv_icmp_eq (tgt := 1283) hx hb dL_law_1278 (by decide) (fun _ => ?_) (fun h => absurd rfl h)
  refine lv_iload hx hb dL_law_1283 (lv_at hl 1 rfl) ?_
  have hend : W p l e room_1 s m #[Value.ref b] below meth c H locs (cells + 20 + 0 + 0) (slots + 200 + 0 + 0) Q (F0 m 1300 ls []) := by
    refine lv_goto (tgt := 1551) hx hb dL_law_1300 (by decide) ?_
    exact kk _ _ _ _ _ _ _ _ _ ls ⟨⟨hw.1.perm z_swap, hw.2⟩, hrc1, hT2, hI1, hE2⟩ (lv_sub hl [2, 3, 4, 5, 6] rfl)
  refine lv_if_ne (tgt := 1300) hx hb dL_law_1285 (by decide) (fun _ => hend) (fun h0 => ?_)
  have hk0 : k1 = 0 := zk_eq0 hk3 h0
  refine lv_aload_n hx hb dL_law_1288 rfl (lv_at hl 5 rfl) ?_
  refine lv_iconst (v := 0) hx hb dL_law_1289 (by decide) ?_
  refine zl_lald Cx hw dL_law_1290 ?_
  rw [zov_0 hk0, hrr hk0]
  refine lv_iload hx hb dL_law_1291 (lv_at hl 0 rfl) ?_
  refine lv_i2l hx hb dL_law_1293 rfl ?_
  refine W.lcmp hx hb dL_law_1294 ?_
  rw [lg_cmp_self]
  exact lv_if_eq (tgt := 1300) hx hb dL_law_1295 (by decide) (fun _ => hend) (fun h => absurd rfl h)

theorem zle_blocks {V V' : zCl} {f t p0 : Int32} {c : Nat} {r : Int32} (h : zA_blocks V f t p0 c r) : c ≤ 3 := by
  rcases h with ⟨e, -⟩ | ⟨e, -⟩ | ⟨e, -⟩ <;> omega
set_option maxRecDepth 100000 in
set_option maxHeartbeats 4000000 in
theorem law_blocks {p : Program} {l : Launch} {e : Env} {s : State} {m : MethodId} {below : List Frame} {meth : Method} {c : Code} {Q : State → Prop} {E : zG} {b L : Nat} {xs : Nat → Int32} (hl0 : l.stackTraces = false) (Cx : zC E p s m #[Value.ref b] meth c RL cL_law wsL_law 7) (hnc : zNc s) (hX : va_X b L xs s s.heap) (hbl : b < s.heap.size) (hbA : ¬ eA E b) {n y x o cells slots : Nat} {ad : Nat → Nat} {sc : Nat → Int32} {g : Nat → Nat → Int32} {ov : Nat → Int64} {Y : va_W} {C : zLs} {V V2 : zCl} {H : Heap} {locs : List Loc} {ls : Array Slot} (hn : n + 9 ≤ L) (hL : L ≤ 4608) (hc : cells + 20 ≤ room_1.cells) (hs : slots + 200 ≤ room_1.slots) (St : zSt E y x o ad s sc g ov Y C V V2 H locs) (hl : lv_has ls 7 [(0, .ref b), (1, .ref x), (2, .ref y), (3, .ref o), (4, .int (nI n))])
    (kk : zKK p l e s m b below meth c Q E y x o ad n (cells + 20) (slots + 200) 1551) : W p l e room_1 s m #[Value.ref b] below meth c H locs cells slots Q (F0 m 1303 ls []) := by
  obtain ⟨hw, hrc, hT, hI, hE⟩ := St
  have hx := Cx.1.1
  have hb := Cx.1.2.1
  have hI2 := zInv_eqv hI hE
  have hlN : (vN V).length ≤ 1000 := by rw [hE.1]; exact Nat.le_trans hT.1.1.2.1 (by omega)
  have hlS : (vS V).length ≤ 1000 := by rw [hE.len]; exact Nat.le_trans hT.1.2.1.2.1 (by omega)
  have hlH : (vH V).length ≤ 1000 := by rw [hE.2.2.1]; exact Nat.le_trans hT.1.2.2.1.2.1 (by omega)
  have hlG : (vG V).length ≤ 1000 := by rw [hE.2.2.2.2]; exact Nat.le_trans hT.1.2.2.2.2.2.1 (by omega)
  refine lv_aload_n hx hb dL_law_1303 rfl (lv_at hl 1 rfl) ?_
  refine lv_aload_n hx hb dL_law_1304 rfl (lv_at hl 0 rfl) ?_
  refine lv_iload hx hb dL_law_1305 (lv_at hl 4 rfl) ?_
  refine lv_iconst (v := nI 1) hx hb dL_law_1307 rfl ?_
  refine lv_iadd hx hb dL_law_1308 ?_
  refine lv_topi (fun q1308 e1308 => ?_)
  rw [nI_add] at e1308
  subst e1308
  refine zl_sld Cx hX hbl hbA hw (show n + 1 < L by omega) hL dL_law_1309 ?_
  refine lv_aload_n hx hb dL_law_1310 rfl (lv_at hl 0 rfl) ?_
  refine lv_iload hx hb dL_law_1311 (lv_at hl 4 rfl) ?_
  refine lv_iconst (v := nI 2) hx hb dL_law_1313 rfl ?_
  refine lv_iadd hx hb dL_law_1314 ?_
  refine lv_topi (fun q1314 e1314 => ?_)
  rw [nI_add] at e1314
  subst e1314
  refine zl_sld Cx hX hbl hbA hw (show n + 2 < L by omega) hL dL_law_1315 ?_
  refine lv_aload_n hx hb dL_law_1316 rfl (lv_at hl 0 rfl) ?_
  refine lv_iload hx hb dL_law_1317 (lv_at hl 4 rfl) ?_
  refine lv_iconst (v := nI 3) hx hb dL_law_1319 rfl ?_
  refine lv_iadd hx hb dL_law_1320 ?_
  refine lv_topi (fun q1320 e1320 => ?_)
  rw [nI_add] at e1320
  subst e1320
  refine zl_sld Cx hX hbl hbA hw (show n + 3 < L by omega) hL dL_law_1321 ?_
  refine lv_aload_n hx hb dL_law_1322 rfl (lv_at hl 3 rfl) ?_
  refine z_goi (wf := zWL E (zMw E y ad sc g) o ov) hw.2 (z_runSW Cx hnc hw (c_L_blocks E l hl0 (zMw E y ad sc g) Y C x o ov V hrc (xs (n + 1)) (xs (n + 2)) (xs (n + 3))) (vx_cwSW 5 Cx.1.2.2.2.2 (zgs2 gL_law_L_blocks) rfl rfl rfl (by decide +kernel) ⟨(Nat.le_of_ble_eq_true rfl), (Nat.le_of_ble_eq_true rfl)⟩) rfl hl.1 rfl (Nat.le_of_ble_eq_true rfl) dL_law_1323 ⟨hc, hs⟩) (fun r u H locs hp hw => ?_)
  obtain ⟨⟨Y1, C1⟩, k1, r1, V1⟩ := u
  obtain ⟨hr1, hrel, hrc1⟩ := hp
  have hr1 : r = nI k1 := hr1
  subst hr1
  have hrel : V1 = V ∧ zA_blocks V (xs (n + 1)) (xs (n + 2)) (xs (n + 3)) k1 r1 := hrel
  have hrc1 : zRC Y1 C1 x V1 := hrc1
  have hw : zHA E ((zMw E y ad sc g ++ [(o, zoc E (zov ov k1 r1))]) ++ Y1) C1 s H locs := hw
  obtain ⟨rfl, hrel⟩ := hrel
  have hk3 := zle_blocks (V' := V1) hrel
  refine lv_istore hx hb dL_law_1326 hl (by decide) rfl (fun ls hl => ?_)
  have hl : lv_has ls 7 [(5, .int (nI k1)), (0, .ref b), (1, .ref x), (2, .ref y), (3, .ref o), (4, .int (nI n))] := hl
  have hw : zHA E ((Y1 ++ [(o, zoc E (zov ov k1 r1))]) ++ zMw E y ad sc g) C1 s H locs := ⟨hw.1.perm z_swap, hw.2⟩
  refine lv_aload_n hx hb dL_law_1328 rfl (lv_at hl 3 rfl) ?_
  refine lv_aload_n hx hb dL_law_1329 rfl (lv_at hl 1 rfl) ?_
  refine lv_iload hx hb dL_law_1330 (lv_at hl 5 rfl) ?_
  refine lv_iconst (v := nI 1) hx hb dL_law_1332 rfl ?_
  refine lv_iadd hx hb dL_law_1333 ?_
  refine lv_topi (fun q1333 e1333 => ?_)
  rw [nI_add] at e1333
  subst e1333
  refine zl_sld Cx hX hbl hbA hw (show n + 1 < L by omega) hL dL_law_1334 ?_
  refine lv_aload_n hx hb dL_law_1335 rfl (lv_at hl 1 rfl) ?_
  refine lv_iload hx hb dL_law_1336 (lv_at hl 5 rfl) ?_
  refine lv_iconst (v := nI 2) hx hb dL_law_1338 rfl ?_
  refine lv_iadd hx hb dL_law_1339 ?_
  refine lv_topi (fun q1339 e1339 => ?_)
  rw [nI_add] at e1339
  subst e1339
  refine zl_sld Cx hX hbl hbA hw (show n + 2 < L by omega) hL dL_law_1340 ?_
  refine lv_aload_n hx hb dL_law_1341 rfl (lv_at hl 1 rfl) ?_
  refine lv_iload hx hb dL_law_1342 (lv_at hl 5 rfl) ?_
  refine lv_iconst (v := nI 3) hx hb dL_law_1344 rfl ?_
  refine lv_iadd hx hb dL_law_1345 ?_
  refine lv_topi (fun q1345 e1345 => ?_)
  rw [nI_add] at e1345
  subst e1345
  refine zl_sld Cx hX hbl hbA hw (show n + 3 < L by omega) hL dL_law_1346 ?_
  refine z_goi (wf := fun (c : Nat) => zQ E ((Y1 ++ [(o, zoc E (zov ov k1 r1))]) ++ zMw E y ad (va_up sc 0 (nI c)) g) C1) hw.2 (z_runV Cx hw (c_m_blocks E l (Y1 ++ [(o, zoc E (zov ov k1 r1))]) C1 y ad sc g V2 hT.1 hI2 (xs (n + 1)) (xs (n + 2)) (xs (n + 3))) (cwV 3 Cx.1.2.2.2.2 gL_law_X8_blocks rfl rfl rfl (by decide +kernel) ⟨(Nat.le_of_ble_eq_true rfl), (Nat.le_of_ble_eq_true rfl)⟩) (z_recv Cx hw (r := (RX8, TX8, 26)) zM_x rfl) rfl hl.1 rfl (Nat.le_of_ble_eq_true rfl) dL_law_1347 ⟨hc, hs⟩) (fun r2 k2 H locs hp hw => ?_)
  have hrel2 : zA_blocks V2 (xs (n + 1)) (xs (n + 2)) (xs (n + 3)) k2 r2 := hp
  obtain ⟨hk, hrr, hE2⟩ := zd_blocks hI hE hlH hrel hrel2
  have hI1 := hI
  subst hk
  obtain ⟨sc2, hs2⟩ : ∃ sc2, sc2 = va_up sc 0 (nI k1) := ⟨_, rfl⟩
  have hT2 : zMT sc2 g V2 := by rw [hs2]; exact zMT_0 hT _
  have hk2 : sc2 0 = nI k1 := by rw [hs2]; exact va_up_self _ _ _
  have hw : zHA E ((Y1 ++ [(o, zoc E (zov ov k1 r1))]) ++ zMw E y ad sc2 g) C1 s H locs := by rw [hs2]; exact hw
  refine lv_istore hx hb dL_law_1350 hl (by decide) rfl (fun ls hl => ?_)
  have hl : lv_has ls 7 [(6, .int r2), (5, .int (nI k1)), (0, .ref b), (1, .ref x), (2, .ref y), (3, .ref o), (4, .int (nI n))] := hl
  refine lv_aload_n hx hb dL_law_1352 rfl (lv_at hl 4 rfl) ?_
  refine z_goe hw.2 (z_runV Cx hw (c_X8_thrown E l (Y1 ++ [(o, zoc E (zov ov k1 r1))]) C1 y ad sc2 g) (cwV 0 Cx.1.2.2.2.2 gL_law_X8_thrown rfl rfl rfl (by decide +kernel) ⟨(Nat.le_of_ble_eq_true rfl), (Nat.le_of_ble_eq_true rfl)⟩) (z_recv Cx hw (r := (RX8, TX8, 26)) zM_x rfl) rfl hl.1 rfl (Nat.le_of_ble_eq_true rfl) dL_law_1353 ⟨hc, hs⟩) (fun H locs hw => ?_)
  rw [hk2]
  refine lv_iload hx hb dL_law_1356 (lv_at hl 1 rfl) ?_
  refine lv_icmp_eq (tgt := 1363) hx hb dL_law_1358 (by decide) (fun _ => ?_) (fun h => absurd rfl h)
  refine lv_iload hx hb dL_law_1363 (lv_at hl 1 rfl) ?_
  have hend : W p l e room_1 s m #[Value.ref b] below meth c H locs (cells + 20 + 0 + 0) (slots + 200 + 0 + 0) Q (F0 m 1380 ls []) := by
    refine lv_goto (tgt := 1551) hx hb dL_law_1380 (by decide) ?_
    exact kk _ _ _ _ _ _ _ _ _ ls ⟨⟨hw.1.perm z_swap, hw.2⟩, hrc1, hT2, hI1, hE2⟩ (lv_sub hl [2, 3, 4, 5, 6] rfl)
  refine lv_if_ne (tgt := 1380) hx hb dL_law_1365 (by decide) (fun _ => hend) (fun h0 => ?_)
  have hk0 : k1 = 0 := zk_eq0 hk3 h0
  refine lv_aload_n hx hb dL_law_1368 rfl (lv_at hl 5 rfl) ?_
  refine lv_iconst (v := 0) hx hb dL_law_1369 (by decide) ?_
  refine zl_lald Cx hw dL_law_1370 ?_
  rw [zov_0 hk0, hrr hk0]
  refine lv_iload hx hb dL_law_1371 (lv_at hl 0 rfl) ?_
  refine lv_i2l hx hb dL_law_1373 rfl ?_
  refine W.lcmp hx hb dL_law_1374 ?_
  rw [lg_cmp_self]
  exact lv_if_eq (tgt := 1380) hx hb dL_law_1375 (by decide) (fun _ => hend) (fun h => absurd rfl h)

theorem zle_pairs {V V' : zCl} {f : Int32} {c : Nat} {r : Int32} (h : zA_pairs V f c r) : c ≤ 3 := by
  rcases h with ⟨e, -⟩ | ⟨e, -⟩ <;> omega
set_option maxRecDepth 100000 in
set_option maxHeartbeats 4000000 in
theorem law_pairs {p : Program} {l : Launch} {e : Env} {s : State} {m : MethodId} {below : List Frame} {meth : Method} {c : Code} {Q : State → Prop} {E : zG} {b L : Nat} {xs : Nat → Int32} (hl0 : l.stackTraces = false) (Cx : zC E p s m #[Value.ref b] meth c RL cL_law wsL_law 7) (hnc : zNc s) (hX : va_X b L xs s s.heap) (hbl : b < s.heap.size) (hbA : ¬ eA E b) {n y x o cells slots : Nat} {ad : Nat → Nat} {sc : Nat → Int32} {g : Nat → Nat → Int32} {ov : Nat → Int64} {Y : va_W} {C : zLs} {V V2 : zCl} {H : Heap} {locs : List Loc} {ls : Array Slot} (hn : n + 9 ≤ L) (hL : L ≤ 4608) (hc : cells + 20 ≤ room_1.cells) (hs : slots + 200 ≤ room_1.slots) (St : zSt E y x o ad s sc g ov Y C V V2 H locs) (hl : lv_has ls 7 [(0, .ref b), (1, .ref x), (2, .ref y), (3, .ref o), (4, .int (nI n))])
    (kk : zKK p l e s m b below meth c Q E y x o ad n (cells + 20) (slots + 200) 1551) : W p l e room_1 s m #[Value.ref b] below meth c H locs cells slots Q (F0 m 1383 ls []) := by
  obtain ⟨hw, hrc, hT, hI, hE⟩ := St
  have hx := Cx.1.1
  have hb := Cx.1.2.1
  have hI2 := zInv_eqv hI hE
  have hlN : (vN V).length ≤ 1000 := by rw [hE.1]; exact Nat.le_trans hT.1.1.2.1 (by omega)
  have hlS : (vS V).length ≤ 1000 := by rw [hE.len]; exact Nat.le_trans hT.1.2.1.2.1 (by omega)
  have hlH : (vH V).length ≤ 1000 := by rw [hE.2.2.1]; exact Nat.le_trans hT.1.2.2.1.2.1 (by omega)
  have hlG : (vG V).length ≤ 1000 := by rw [hE.2.2.2.2]; exact Nat.le_trans hT.1.2.2.2.2.2.1 (by omega)
  refine lv_aload_n hx hb dL_law_1383 rfl (lv_at hl 1 rfl) ?_
  refine lv_aload_n hx hb dL_law_1384 rfl (lv_at hl 0 rfl) ?_
  refine lv_iload hx hb dL_law_1385 (lv_at hl 4 rfl) ?_
  refine lv_iconst (v := nI 1) hx hb dL_law_1387 rfl ?_
  refine lv_iadd hx hb dL_law_1388 ?_
  refine lv_topi (fun q1388 e1388 => ?_)
  rw [nI_add] at e1388
  subst e1388
  refine zl_sld Cx hX hbl hbA hw (show n + 1 < L by omega) hL dL_law_1389 ?_
  refine lv_aload_n hx hb dL_law_1390 rfl (lv_at hl 3 rfl) ?_
  refine z_goi (wf := zWL E (zMw E y ad sc g) o ov) hw.2 (z_runSW Cx hnc hw (c_L_pairs E l hl0 (zMw E y ad sc g) Y C x o ov V hrc (xs (n + 1))) (vx_cwSW 3 Cx.1.2.2.2.2 (zgs2 gL_law_L_pairs) rfl rfl rfl (by decide +kernel) ⟨(Nat.le_of_ble_eq_true rfl), (Nat.le_of_ble_eq_true rfl)⟩) rfl hl.1 rfl (Nat.le_of_ble_eq_true rfl) dL_law_1391 ⟨hc, hs⟩) (fun r u H locs hp hw => ?_)
  obtain ⟨⟨Y1, C1⟩, k1, r1, V1⟩ := u
  obtain ⟨hr1, hrel, hrc1⟩ := hp
  have hr1 : r = nI k1 := hr1
  subst hr1
  have hrel : V1 = V ∧ zA_pairs V (xs (n + 1)) k1 r1 := hrel
  have hrc1 : zRC Y1 C1 x V1 := hrc1
  have hw : zHA E ((zMw E y ad sc g ++ [(o, zoc E (zov ov k1 r1))]) ++ Y1) C1 s H locs := hw
  obtain ⟨rfl, hrel⟩ := hrel
  have hk3 := zle_pairs (V' := V1) hrel
  refine lv_istore hx hb dL_law_1394 hl (by decide) rfl (fun ls hl => ?_)
  have hl : lv_has ls 7 [(5, .int (nI k1)), (0, .ref b), (1, .ref x), (2, .ref y), (3, .ref o), (4, .int (nI n))] := hl
  have hw : zHA E ((Y1 ++ [(o, zoc E (zov ov k1 r1))]) ++ zMw E y ad sc g) C1 s H locs := ⟨hw.1.perm z_swap, hw.2⟩
  refine lv_aload_n hx hb dL_law_1396 rfl (lv_at hl 3 rfl) ?_
  refine lv_aload_n hx hb dL_law_1397 rfl (lv_at hl 1 rfl) ?_
  refine lv_iload hx hb dL_law_1398 (lv_at hl 5 rfl) ?_
  refine lv_iconst (v := nI 1) hx hb dL_law_1400 rfl ?_
  refine lv_iadd hx hb dL_law_1401 ?_
  refine lv_topi (fun q1401 e1401 => ?_)
  rw [nI_add] at e1401
  subst e1401
  refine zl_sld Cx hX hbl hbA hw (show n + 1 < L by omega) hL dL_law_1402 ?_
  refine z_goi (wf := fun (c : Nat) => zQ E ((Y1 ++ [(o, zoc E (zov ov k1 r1))]) ++ zMw E y ad (va_up sc 0 (nI c)) g) C1) hw.2 (z_runV Cx hw (c_m_pairs E l (Y1 ++ [(o, zoc E (zov ov k1 r1))]) C1 y ad sc g V2 hT.1 hI2 (xs (n + 1))) (cwV 1 Cx.1.2.2.2.2 gL_law_X8_pairs rfl rfl rfl (by decide +kernel) ⟨(Nat.le_of_ble_eq_true rfl), (Nat.le_of_ble_eq_true rfl)⟩) (z_recv Cx hw (r := (RX8, TX8, 26)) zM_x rfl) rfl hl.1 rfl (Nat.le_of_ble_eq_true rfl) dL_law_1403 ⟨hc, hs⟩) (fun r2 k2 H locs hp hw => ?_)
  have hrel2 : zA_pairs V2 (xs (n + 1)) k2 r2 := hp
  obtain ⟨hk, hrr, hE2⟩ := zd_pairs hI hE hrel hrel2
  have hI1 := hI
  subst hk
  obtain ⟨sc2, hs2⟩ : ∃ sc2, sc2 = va_up sc 0 (nI k1) := ⟨_, rfl⟩
  have hT2 : zMT sc2 g V2 := by rw [hs2]; exact zMT_0 hT _
  have hk2 : sc2 0 = nI k1 := by rw [hs2]; exact va_up_self _ _ _
  have hw : zHA E ((Y1 ++ [(o, zoc E (zov ov k1 r1))]) ++ zMw E y ad sc2 g) C1 s H locs := by rw [hs2]; exact hw
  refine lv_istore hx hb dL_law_1406 hl (by decide) rfl (fun ls hl => ?_)
  have hl : lv_has ls 7 [(6, .int r2), (5, .int (nI k1)), (0, .ref b), (1, .ref x), (2, .ref y), (3, .ref o), (4, .int (nI n))] := hl
  refine lv_aload_n hx hb dL_law_1408 rfl (lv_at hl 4 rfl) ?_
  refine z_goe hw.2 (z_runV Cx hw (c_X8_thrown E l (Y1 ++ [(o, zoc E (zov ov k1 r1))]) C1 y ad sc2 g) (cwV 0 Cx.1.2.2.2.2 gL_law_X8_thrown rfl rfl rfl (by decide +kernel) ⟨(Nat.le_of_ble_eq_true rfl), (Nat.le_of_ble_eq_true rfl)⟩) (z_recv Cx hw (r := (RX8, TX8, 26)) zM_x rfl) rfl hl.1 rfl (Nat.le_of_ble_eq_true rfl) dL_law_1409 ⟨hc, hs⟩) (fun H locs hw => ?_)
  rw [hk2]
  refine lv_iload hx hb dL_law_1412 (lv_at hl 1 rfl) ?_
  refine lv_icmp_eq (tgt := 1419) hx hb dL_law_1414 (by decide) (fun _ => ?_) (fun h => absurd rfl h)
  refine lv_iload hx hb dL_law_1419 (lv_at hl 1 rfl) ?_
  have hend : W p l e room_1 s m #[Value.ref b] below meth c H locs (cells + 20 + 0 + 0) (slots + 200 + 0 + 0) Q (F0 m 1436 ls []) := by
    refine lv_goto (tgt := 1551) hx hb dL_law_1436 (by decide) ?_
    exact kk _ _ _ _ _ _ _ _ _ ls ⟨⟨hw.1.perm z_swap, hw.2⟩, hrc1, hT2, hI1, hE2⟩ (lv_sub hl [2, 3, 4, 5, 6] rfl)
  refine lv_if_ne (tgt := 1436) hx hb dL_law_1421 (by decide) (fun _ => hend) (fun h0 => ?_)
  have hk0 : k1 = 0 := zk_eq0 hk3 h0
  refine lv_aload_n hx hb dL_law_1424 rfl (lv_at hl 5 rfl) ?_
  refine lv_iconst (v := 0) hx hb dL_law_1425 (by decide) ?_
  refine zl_lald Cx hw dL_law_1426 ?_
  rw [zov_0 hk0, hrr hk0]
  refine lv_iload hx hb dL_law_1427 (lv_at hl 0 rfl) ?_
  refine lv_i2l hx hb dL_law_1429 rfl ?_
  refine W.lcmp hx hb dL_law_1430 ?_
  rw [lg_cmp_self]
  exact lv_if_eq (tgt := 1436) hx hb dL_law_1431 (by decide) (fun _ => hend) (fun h => absurd rfl h)

theorem zle_reachedFrom {V V' : zCl} {f : Int32} {c : Nat} {r : Int32} (h : zA_reachedFrom V f c r) : c ≤ 3 := by
  rcases h with ⟨e, -⟩ | ⟨e, -⟩ <;> omega
set_option maxRecDepth 100000 in
set_option maxHeartbeats 4000000 in
theorem law_reachedFrom {p : Program} {l : Launch} {e : Env} {s : State} {m : MethodId} {below : List Frame} {meth : Method} {c : Code} {Q : State → Prop} {E : zG} {b L : Nat} {xs : Nat → Int32} (hl0 : l.stackTraces = false) (Cx : zC E p s m #[Value.ref b] meth c RL cL_law wsL_law 7) (hnc : zNc s) (hX : va_X b L xs s s.heap) (hbl : b < s.heap.size) (hbA : ¬ eA E b) {n y x o cells slots : Nat} {ad : Nat → Nat} {sc : Nat → Int32} {g : Nat → Nat → Int32} {ov : Nat → Int64} {Y : va_W} {C : zLs} {V V2 : zCl} {H : Heap} {locs : List Loc} {ls : Array Slot} (hn : n + 9 ≤ L) (hL : L ≤ 4608) (hc : cells + 20 ≤ room_1.cells) (hs : slots + 200 ≤ room_1.slots) (St : zSt E y x o ad s sc g ov Y C V V2 H locs) (hl : lv_has ls 7 [(0, .ref b), (1, .ref x), (2, .ref y), (3, .ref o), (4, .int (nI n))])
    (kk : zKK p l e s m b below meth c Q E y x o ad n (cells + 20) (slots + 200) 1551) : W p l e room_1 s m #[Value.ref b] below meth c H locs cells slots Q (F0 m 1439 ls []) := by
  obtain ⟨hw, hrc, hT, hI, hE⟩ := St
  have hx := Cx.1.1
  have hb := Cx.1.2.1
  have hI2 := zInv_eqv hI hE
  have hlN : (vN V).length ≤ 1000 := by rw [hE.1]; exact Nat.le_trans hT.1.1.2.1 (by omega)
  have hlS : (vS V).length ≤ 1000 := by rw [hE.len]; exact Nat.le_trans hT.1.2.1.2.1 (by omega)
  have hlH : (vH V).length ≤ 1000 := by rw [hE.2.2.1]; exact Nat.le_trans hT.1.2.2.1.2.1 (by omega)
  have hlG : (vG V).length ≤ 1000 := by rw [hE.2.2.2.2]; exact Nat.le_trans hT.1.2.2.2.2.2.1 (by omega)
  refine lv_aload_n hx hb dL_law_1439 rfl (lv_at hl 1 rfl) ?_
  refine lv_aload_n hx hb dL_law_1440 rfl (lv_at hl 0 rfl) ?_
  refine lv_iload hx hb dL_law_1441 (lv_at hl 4 rfl) ?_
  refine lv_iconst (v := nI 1) hx hb dL_law_1443 rfl ?_
  refine lv_iadd hx hb dL_law_1444 ?_
  refine lv_topi (fun q1444 e1444 => ?_)
  rw [nI_add] at e1444
  subst e1444
  refine zl_sld Cx hX hbl hbA hw (show n + 1 < L by omega) hL dL_law_1445 ?_
  refine lv_aload_n hx hb dL_law_1446 rfl (lv_at hl 3 rfl) ?_
  refine z_goi (wf := zWL E (zMw E y ad sc g) o ov) hw.2 (z_runSW Cx hnc hw (c_L_reachedFrom E l hl0 (zMw E y ad sc g) Y C x o ov V hrc (xs (n + 1))) (vx_cwSW 3 Cx.1.2.2.2.2 (zgs2 gL_law_L_reachedFrom) rfl rfl rfl (by decide +kernel) ⟨(Nat.le_of_ble_eq_true rfl), (Nat.le_of_ble_eq_true rfl)⟩) rfl hl.1 rfl (Nat.le_of_ble_eq_true rfl) dL_law_1447 ⟨hc, hs⟩) (fun r u H locs hp hw => ?_)
  obtain ⟨⟨Y1, C1⟩, k1, r1, V1⟩ := u
  obtain ⟨hr1, hrel, hrc1⟩ := hp
  have hr1 : r = nI k1 := hr1
  subst hr1
  have hrel : V1 = V ∧ zA_reachedFrom V (xs (n + 1)) k1 r1 := hrel
  have hrc1 : zRC Y1 C1 x V1 := hrc1
  have hw : zHA E ((zMw E y ad sc g ++ [(o, zoc E (zov ov k1 r1))]) ++ Y1) C1 s H locs := hw
  obtain ⟨rfl, hrel⟩ := hrel
  have hk3 := zle_reachedFrom (V' := V1) hrel
  refine lv_istore hx hb dL_law_1450 hl (by decide) rfl (fun ls hl => ?_)
  have hl : lv_has ls 7 [(5, .int (nI k1)), (0, .ref b), (1, .ref x), (2, .ref y), (3, .ref o), (4, .int (nI n))] := hl
  have hw : zHA E ((Y1 ++ [(o, zoc E (zov ov k1 r1))]) ++ zMw E y ad sc g) C1 s H locs := ⟨hw.1.perm z_swap, hw.2⟩
  refine lv_aload_n hx hb dL_law_1452 rfl (lv_at hl 3 rfl) ?_
  refine lv_aload_n hx hb dL_law_1453 rfl (lv_at hl 1 rfl) ?_
  refine lv_iload hx hb dL_law_1454 (lv_at hl 5 rfl) ?_
  refine lv_iconst (v := nI 1) hx hb dL_law_1456 rfl ?_
  refine lv_iadd hx hb dL_law_1457 ?_
  refine lv_topi (fun q1457 e1457 => ?_)
  rw [nI_add] at e1457
  subst e1457
  refine zl_sld Cx hX hbl hbA hw (show n + 1 < L by omega) hL dL_law_1458 ?_
  refine z_goi (wf := fun (c : Nat) => zQ E ((Y1 ++ [(o, zoc E (zov ov k1 r1))]) ++ zMw E y ad (va_up sc 0 (nI c)) g) C1) hw.2 (z_runV Cx hw (c_m_reachedFrom E l (Y1 ++ [(o, zoc E (zov ov k1 r1))]) C1 y ad sc g V2 hT.1 hI2 (xs (n + 1))) (cwV 1 Cx.1.2.2.2.2 gL_law_X8_reachedFrom rfl rfl rfl (by decide +kernel) ⟨(Nat.le_of_ble_eq_true rfl), (Nat.le_of_ble_eq_true rfl)⟩) (z_recv Cx hw (r := (RX8, TX8, 26)) zM_x rfl) rfl hl.1 rfl (Nat.le_of_ble_eq_true rfl) dL_law_1459 ⟨hc, hs⟩) (fun r2 k2 H locs hp hw => ?_)
  have hrel2 : zA_reachedFrom V2 (xs (n + 1)) k2 r2 := hp
  obtain ⟨hk, hrr, hE2⟩ := zd_reachedFrom hI hE hlH hrel hrel2
  have hI1 := hI
  subst hk
  obtain ⟨sc2, hs2⟩ : ∃ sc2, sc2 = va_up sc 0 (nI k1) := ⟨_, rfl⟩
  have hT2 : zMT sc2 g V2 := by rw [hs2]; exact zMT_0 hT _
  have hk2 : sc2 0 = nI k1 := by rw [hs2]; exact va_up_self _ _ _
  have hw : zHA E ((Y1 ++ [(o, zoc E (zov ov k1 r1))]) ++ zMw E y ad sc2 g) C1 s H locs := by rw [hs2]; exact hw
  refine lv_istore hx hb dL_law_1462 hl (by decide) rfl (fun ls hl => ?_)
  have hl : lv_has ls 7 [(6, .int r2), (5, .int (nI k1)), (0, .ref b), (1, .ref x), (2, .ref y), (3, .ref o), (4, .int (nI n))] := hl
  refine lv_aload_n hx hb dL_law_1464 rfl (lv_at hl 4 rfl) ?_
  refine z_goe hw.2 (z_runV Cx hw (c_X8_thrown E l (Y1 ++ [(o, zoc E (zov ov k1 r1))]) C1 y ad sc2 g) (cwV 0 Cx.1.2.2.2.2 gL_law_X8_thrown rfl rfl rfl (by decide +kernel) ⟨(Nat.le_of_ble_eq_true rfl), (Nat.le_of_ble_eq_true rfl)⟩) (z_recv Cx hw (r := (RX8, TX8, 26)) zM_x rfl) rfl hl.1 rfl (Nat.le_of_ble_eq_true rfl) dL_law_1465 ⟨hc, hs⟩) (fun H locs hw => ?_)
  rw [hk2]
  refine lv_iload hx hb dL_law_1468 (lv_at hl 1 rfl) ?_
  refine lv_icmp_eq (tgt := 1475) hx hb dL_law_1470 (by decide) (fun _ => ?_) (fun h => absurd rfl h)
  refine lv_iload hx hb dL_law_1475 (lv_at hl 1 rfl) ?_
  have hend : W p l e room_1 s m #[Value.ref b] below meth c H locs (cells + 20 + 0 + 0) (slots + 200 + 0 + 0) Q (F0 m 1492 ls []) := by
    refine lv_goto (tgt := 1551) hx hb dL_law_1492 (by decide) ?_
    exact kk _ _ _ _ _ _ _ _ _ ls ⟨⟨hw.1.perm z_swap, hw.2⟩, hrc1, hT2, hI1, hE2⟩ (lv_sub hl [2, 3, 4, 5, 6] rfl)
  refine lv_if_ne (tgt := 1492) hx hb dL_law_1477 (by decide) (fun _ => hend) (fun h0 => ?_)
  have hk0 : k1 = 0 := zk_eq0 hk3 h0
  refine lv_aload_n hx hb dL_law_1480 rfl (lv_at hl 5 rfl) ?_
  refine lv_iconst (v := 0) hx hb dL_law_1481 (by decide) ?_
  refine zl_lald Cx hw dL_law_1482 ?_
  rw [zov_0 hk0, hrr hk0]
  refine lv_iload hx hb dL_law_1483 (lv_at hl 0 rfl) ?_
  refine lv_i2l hx hb dL_law_1485 rfl ?_
  refine W.lcmp hx hb dL_law_1486 ?_
  rw [lg_cmp_self]
  exact lv_if_eq (tgt := 1492) hx hb dL_law_1487 (by decide) (fun _ => hend) (fun h => absurd rfl h)

theorem zle_idleRules {V V' : zCl} {f : Int32} {c : Nat} {r : Int32} (h : zA_idleRules V f c r) : c ≤ 3 := by
  rcases h with ⟨e, -⟩ | ⟨e, -⟩ <;> omega
set_option maxRecDepth 100000 in
set_option maxHeartbeats 4000000 in
theorem law_idleRules {p : Program} {l : Launch} {e : Env} {s : State} {m : MethodId} {below : List Frame} {meth : Method} {c : Code} {Q : State → Prop} {E : zG} {b L : Nat} {xs : Nat → Int32} (hl0 : l.stackTraces = false) (Cx : zC E p s m #[Value.ref b] meth c RL cL_law wsL_law 7) (hnc : zNc s) (hX : va_X b L xs s s.heap) (hbl : b < s.heap.size) (hbA : ¬ eA E b) {n y x o cells slots : Nat} {ad : Nat → Nat} {sc : Nat → Int32} {g : Nat → Nat → Int32} {ov : Nat → Int64} {Y : va_W} {C : zLs} {V V2 : zCl} {H : Heap} {locs : List Loc} {ls : Array Slot} (hn : n + 9 ≤ L) (hL : L ≤ 4608) (hc : cells + 20 ≤ room_1.cells) (hs : slots + 200 ≤ room_1.slots) (St : zSt E y x o ad s sc g ov Y C V V2 H locs) (hl : lv_has ls 7 [(0, .ref b), (1, .ref x), (2, .ref y), (3, .ref o), (4, .int (nI n))])
    (kk : zKK p l e s m b below meth c Q E y x o ad n (cells + 20) (slots + 200) 1551) : W p l e room_1 s m #[Value.ref b] below meth c H locs cells slots Q (F0 m 1495 ls []) := by
  obtain ⟨hw, hrc, hT, hI, hE⟩ := St
  have hx := Cx.1.1
  have hb := Cx.1.2.1
  have hI2 := zInv_eqv hI hE
  have hlN : (vN V).length ≤ 1000 := by rw [hE.1]; exact Nat.le_trans hT.1.1.2.1 (by omega)
  have hlS : (vS V).length ≤ 1000 := by rw [hE.len]; exact Nat.le_trans hT.1.2.1.2.1 (by omega)
  have hlH : (vH V).length ≤ 1000 := by rw [hE.2.2.1]; exact Nat.le_trans hT.1.2.2.1.2.1 (by omega)
  have hlG : (vG V).length ≤ 1000 := by rw [hE.2.2.2.2]; exact Nat.le_trans hT.1.2.2.2.2.2.1 (by omega)
  refine lv_aload_n hx hb dL_law_1495 rfl (lv_at hl 1 rfl) ?_
  refine lv_aload_n hx hb dL_law_1496 rfl (lv_at hl 0 rfl) ?_
  refine lv_iload hx hb dL_law_1497 (lv_at hl 4 rfl) ?_
  refine lv_iconst (v := nI 1) hx hb dL_law_1499 rfl ?_
  refine lv_iadd hx hb dL_law_1500 ?_
  refine lv_topi (fun q1500 e1500 => ?_)
  rw [nI_add] at e1500
  subst e1500
  refine zl_sld Cx hX hbl hbA hw (show n + 1 < L by omega) hL dL_law_1501 ?_
  refine lv_aload_n hx hb dL_law_1502 rfl (lv_at hl 3 rfl) ?_
  refine z_goi (wf := zWL E (zMw E y ad sc g) o ov) hw.2 (z_runSW Cx hnc hw (c_L_idleRules E l hl0 (zMw E y ad sc g) Y C x o ov V hrc (xs (n + 1))) (vx_cwSW 3 Cx.1.2.2.2.2 (zgs2 gL_law_L_idleRules) rfl rfl rfl (by decide +kernel) ⟨(Nat.le_of_ble_eq_true rfl), (Nat.le_of_ble_eq_true rfl)⟩) rfl hl.1 rfl (Nat.le_of_ble_eq_true rfl) dL_law_1503 ⟨hc, hs⟩) (fun r u H locs hp hw => ?_)
  obtain ⟨⟨Y1, C1⟩, k1, r1, V1⟩ := u
  obtain ⟨hr1, hrel, hrc1⟩ := hp
  have hr1 : r = nI k1 := hr1
  subst hr1
  have hrel : V1 = V ∧ zA_idleRules V (xs (n + 1)) k1 r1 := hrel
  have hrc1 : zRC Y1 C1 x V1 := hrc1
  have hw : zHA E ((zMw E y ad sc g ++ [(o, zoc E (zov ov k1 r1))]) ++ Y1) C1 s H locs := hw
  obtain ⟨rfl, hrel⟩ := hrel
  have hk3 := zle_idleRules (V' := V1) hrel
  refine lv_istore hx hb dL_law_1506 hl (by decide) rfl (fun ls hl => ?_)
  have hl : lv_has ls 7 [(5, .int (nI k1)), (0, .ref b), (1, .ref x), (2, .ref y), (3, .ref o), (4, .int (nI n))] := hl
  have hw : zHA E ((Y1 ++ [(o, zoc E (zov ov k1 r1))]) ++ zMw E y ad sc g) C1 s H locs := ⟨hw.1.perm z_swap, hw.2⟩
  refine lv_aload_n hx hb dL_law_1508 rfl (lv_at hl 3 rfl) ?_
  refine lv_aload_n hx hb dL_law_1509 rfl (lv_at hl 1 rfl) ?_
  refine lv_iload hx hb dL_law_1510 (lv_at hl 5 rfl) ?_
  refine lv_iconst (v := nI 1) hx hb dL_law_1512 rfl ?_
  refine lv_iadd hx hb dL_law_1513 ?_
  refine lv_topi (fun q1513 e1513 => ?_)
  rw [nI_add] at e1513
  subst e1513
  refine zl_sld Cx hX hbl hbA hw (show n + 1 < L by omega) hL dL_law_1514 ?_
  refine z_goi (wf := fun (c : Nat) => zQ E ((Y1 ++ [(o, zoc E (zov ov k1 r1))]) ++ zMw E y ad (va_up sc 0 (nI c)) g) C1) hw.2 (z_runV Cx hw (c_m_idleRules E l (Y1 ++ [(o, zoc E (zov ov k1 r1))]) C1 y ad sc g V2 hT.1 hI2 (xs (n + 1))) (cwV 1 Cx.1.2.2.2.2 gL_law_X8_idleRules rfl rfl rfl (by decide +kernel) ⟨(Nat.le_of_ble_eq_true rfl), (Nat.le_of_ble_eq_true rfl)⟩) (z_recv Cx hw (r := (RX8, TX8, 26)) zM_x rfl) rfl hl.1 rfl (Nat.le_of_ble_eq_true rfl) dL_law_1515 ⟨hc, hs⟩) (fun r2 k2 H locs hp hw => ?_)
  have hrel2 : zA_idleRules V2 (xs (n + 1)) k2 r2 := hp
  obtain ⟨hk, hrr, hE2⟩ := zd_idleRules hI hE hlS hrel hrel2
  have hI1 := hI
  subst hk
  obtain ⟨sc2, hs2⟩ : ∃ sc2, sc2 = va_up sc 0 (nI k1) := ⟨_, rfl⟩
  have hT2 : zMT sc2 g V2 := by rw [hs2]; exact zMT_0 hT _
  have hk2 : sc2 0 = nI k1 := by rw [hs2]; exact va_up_self _ _ _
  have hw : zHA E ((Y1 ++ [(o, zoc E (zov ov k1 r1))]) ++ zMw E y ad sc2 g) C1 s H locs := by rw [hs2]; exact hw
  refine lv_istore hx hb dL_law_1518 hl (by decide) rfl (fun ls hl => ?_)
  have hl : lv_has ls 7 [(6, .int r2), (5, .int (nI k1)), (0, .ref b), (1, .ref x), (2, .ref y), (3, .ref o), (4, .int (nI n))] := hl
  refine lv_aload_n hx hb dL_law_1520 rfl (lv_at hl 4 rfl) ?_
  refine z_goe hw.2 (z_runV Cx hw (c_X8_thrown E l (Y1 ++ [(o, zoc E (zov ov k1 r1))]) C1 y ad sc2 g) (cwV 0 Cx.1.2.2.2.2 gL_law_X8_thrown rfl rfl rfl (by decide +kernel) ⟨(Nat.le_of_ble_eq_true rfl), (Nat.le_of_ble_eq_true rfl)⟩) (z_recv Cx hw (r := (RX8, TX8, 26)) zM_x rfl) rfl hl.1 rfl (Nat.le_of_ble_eq_true rfl) dL_law_1521 ⟨hc, hs⟩) (fun H locs hw => ?_)
  rw [hk2]
  refine lv_iload hx hb dL_law_1524 (lv_at hl 1 rfl) ?_
  refine lv_icmp_eq (tgt := 1531) hx hb dL_law_1526 (by decide) (fun _ => ?_) (fun h => absurd rfl h)
  refine lv_iload hx hb dL_law_1531 (lv_at hl 1 rfl) ?_
  have hend : W p l e room_1 s m #[Value.ref b] below meth c H locs (cells + 20 + 0 + 0) (slots + 200 + 0 + 0) Q (F0 m 1548 ls []) := by
    refine lv_goto (tgt := 1551) hx hb dL_law_1548 (by decide) ?_
    exact kk _ _ _ _ _ _ _ _ _ ls ⟨⟨hw.1.perm z_swap, hw.2⟩, hrc1, hT2, hI1, hE2⟩ (lv_sub hl [2, 3, 4, 5, 6] rfl)
  refine lv_if_ne (tgt := 1548) hx hb dL_law_1533 (by decide) (fun _ => hend) (fun h0 => ?_)
  have hk0 : k1 = 0 := zk_eq0 hk3 h0
  refine lv_aload_n hx hb dL_law_1536 rfl (lv_at hl 5 rfl) ?_
  refine lv_iconst (v := 0) hx hb dL_law_1537 (by decide) ?_
  refine zl_lald Cx hw dL_law_1538 ?_
  rw [zov_0 hk0, hrr hk0]
  refine lv_iload hx hb dL_law_1539 (lv_at hl 0 rfl) ?_
  refine lv_i2l hx hb dL_law_1541 rfl ?_
  refine W.lcmp hx hb dL_law_1542 ?_
  rw [lg_cmp_self]
  exact lv_if_eq (tgt := 1548) hx hb dL_law_1543 (by decide) (fun _ => hend) (fun h => absurd rfl h)


theorem zle_removeRule {V V' : zCl} {f pl : Int32} {c : Nat} {r : Int32} (h : zA_removeRule V f pl c r V') : c ≤ 3 := h.le (by decide) (fun ⟨_, _, _, _, h, _⟩ => by rw [h]; decide)
set_option maxRecDepth 100000 in
set_option maxHeartbeats 4000000 in
theorem law_removeRule {p : Program} {l : Launch} {e : Env} {s : State} {m : MethodId} {below : List Frame} {meth : Method} {c : Code} {Q : State → Prop} {E : zG} {b L : Nat} {xs : Nat → Int32} (hl0 : l.stackTraces = false) (Cx : zC E p s m #[Value.ref b] meth c RL cL_law wsL_law 7) (hnc : zNc s) (hX : va_X b L xs s s.heap) (hbl : b < s.heap.size) (hbA : ¬ eA E b) {n y x o cells slots : Nat} {ad : Nat → Nat} {sc : Nat → Int32} {g : Nat → Nat → Int32} {ov : Nat → Int64} {Y : va_W} {C : zLs} {V V2 : zCl} {H : Heap} {locs : List Loc} {ls : Array Slot} (hn : n + 9 ≤ L) (hL : L ≤ 4608) (hc : cells + 20 ≤ room_1.cells) (hs : slots + 200 ≤ room_1.slots) (St : zSt E y x o ad s sc g ov Y C V V2 H locs) (hl : lv_has ls 7 [(0, .ref b), (1, .ref x), (2, .ref y), (3, .ref o), (4, .int (nI n))])
    (kk : zKK p l e s m b below meth c Q E y x o ad n (cells + 20) (slots + 200) 1551) : W p l e room_1 s m #[Value.ref b] below meth c H locs cells slots Q (F0 m 927 ls []) := by
  obtain ⟨hw, hrc, hT, hI, hE⟩ := St
  have hx := Cx.1.1
  have hb := Cx.1.2.1
  have hI2 := zInv_eqv hI hE
  have hlN : (vN V).length ≤ 1000 := by rw [hE.1]; exact Nat.le_trans hT.1.1.2.1 (by omega)
  have hlS : (vS V).length ≤ 1000 := by rw [hE.len]; exact Nat.le_trans hT.1.2.1.2.1 (by omega)
  have hlH : (vH V).length ≤ 1000 := by rw [hE.2.2.1]; exact Nat.le_trans hT.1.2.2.1.2.1 (by omega)
  have hlG : (vG V).length ≤ 1000 := by rw [hE.2.2.2.2]; exact Nat.le_trans hT.1.2.2.2.2.2.1 (by omega)
  have hlR : ∀ v ∈ vS V, v.2.2.1.length ≤ 900 := fun v hv => by
    obtain ⟨i, hi⟩ := List.getElem?_of_mem hv
    obtain ⟨v2, hv2, -, -, e3, -⟩ := hE.symm.mem hi
    rw [← e3]
    exact Nat.le_trans (hT.1.2.1.2.2 i v2 hv2).2.2.1.2.1 (by omega)
  refine lv_aload_n hx hb dL_law_927 rfl (lv_at hl 1 rfl) ?_
  refine lv_aload_n hx hb dL_law_928 rfl (lv_at hl 0 rfl) ?_
  refine lv_iload hx hb dL_law_929 (lv_at hl 4 rfl) ?_
  refine lv_iconst (v := nI 1) hx hb dL_law_931 rfl ?_
  refine lv_iadd hx hb dL_law_932 ?_
  refine lv_topi (fun q932 e932 => ?_)
  rw [nI_add] at e932
  subst e932
  refine zl_sld Cx hX hbl hbA hw (show n + 1 < L by omega) hL dL_law_933 ?_
  refine lv_aload_n hx hb dL_law_934 rfl (lv_at hl 0 rfl) ?_
  refine lv_iload hx hb dL_law_935 (lv_at hl 4 rfl) ?_
  refine lv_iconst (v := nI 2) hx hb dL_law_937 rfl ?_
  refine lv_iadd hx hb dL_law_938 ?_
  refine lv_topi (fun q938 e938 => ?_)
  rw [nI_add] at e938
  subst e938
  refine zl_sld Cx hX hbl hbA hw (show n + 2 < L by omega) hL dL_law_939 ?_
  refine lv_aload_n hx hb dL_law_940 rfl (lv_at hl 3 rfl) ?_
  refine z_goi (wf := zWL E (zMw E y ad sc g) o ov) hw.2 (z_runSW Cx hnc hw (c_L_removeRule E l hl0 (zMw E y ad sc g) Y C x o ov V hrc (xs (n + 1)) (xs (n + 2))) (vx_cwSW 4 Cx.1.2.2.2.2 (zgs2 gL_law_L_removeRule) rfl rfl rfl (by decide +kernel) ⟨(Nat.le_of_ble_eq_true rfl), (Nat.le_of_ble_eq_true rfl)⟩) rfl hl.1 rfl (Nat.le_of_ble_eq_true rfl) dL_law_941 ⟨hc, hs⟩) (fun r u H locs hp hw => ?_)
  obtain ⟨⟨Y1, C1⟩, k1, r1, V1⟩ := u
  obtain ⟨hr1, hrel, hrc1⟩ := hp
  have hr1 : r = nI k1 := hr1
  subst hr1
  have hrel : zA_removeRule V (xs (n + 1)) (xs (n + 2)) k1 r1 V1 := hrel
  have hrc1 : zRC Y1 C1 x V1 := hrc1
  have hw : zHA E ((zMw E y ad sc g ++ [(o, zoc E (zov ov k1 r1))]) ++ Y1) C1 s H locs := hw
  have hk3 := zle_removeRule (V' := V1) hrel
  refine lv_istore hx hb dL_law_944 hl (by decide) rfl (fun ls hl => ?_)
  have hl : lv_has ls 7 [(5, .int (nI k1)), (0, .ref b), (1, .ref x), (2, .ref y), (3, .ref o), (4, .int (nI n))] := hl
  have hw : zHA E ((Y1 ++ [(o, zoc E (zov ov k1 r1))]) ++ zMw E y ad sc g) C1 s H locs := ⟨hw.1.perm z_swap, hw.2⟩
  refine lv_aload_n hx hb dL_law_946 rfl (lv_at hl 3 rfl) ?_
  refine lv_aload_n hx hb dL_law_947 rfl (lv_at hl 1 rfl) ?_
  refine lv_iload hx hb dL_law_948 (lv_at hl 5 rfl) ?_
  refine lv_iconst (v := nI 1) hx hb dL_law_950 rfl ?_
  refine lv_iadd hx hb dL_law_951 ?_
  refine lv_topi (fun q951 e951 => ?_)
  rw [nI_add] at e951
  subst e951
  refine zl_sld Cx hX hbl hbA hw (show n + 1 < L by omega) hL dL_law_952 ?_
  refine lv_aload_n hx hb dL_law_953 rfl (lv_at hl 1 rfl) ?_
  refine lv_iload hx hb dL_law_954 (lv_at hl 5 rfl) ?_
  refine lv_iconst (v := nI 2) hx hb dL_law_956 rfl ?_
  refine lv_iadd hx hb dL_law_957 ?_
  refine lv_topi (fun q957 e957 => ?_)
  rw [nI_add] at e957
  subst e957
  refine zl_sld Cx hX hbl hbA hw (show n + 2 < L by omega) hL dL_law_958 ?_
  refine z_goi (wf := fun (u : zU) => zQ E ((Y1 ++ [(o, zoc E (zov ov k1 r1))]) ++ zMw E y ad u.2.1 u.2.2.1) C1) hw.2 (z_runV Cx hw (c_m_removeRule E l (Y1 ++ [(o, zoc E (zov ov k1 r1))]) C1 y ad sc g V2 hT hI2 (xs (n + 1)) (xs (n + 2))) (cwV 2 Cx.1.2.2.2.2 gL_law_X8_removeRule rfl rfl rfl (by decide +kernel) ⟨(Nat.le_of_ble_eq_true rfl), (Nat.le_of_ble_eq_true rfl)⟩) (z_recv Cx hw (r := (RX8, TX8, 26)) zM_x rfl) rfl hl.1 rfl (Nat.le_of_ble_eq_true rfl) dL_law_959 ⟨hc, hs⟩) (fun r2 u H locs hp hw => ?_)
  obtain ⟨k2, sc2, g2, W2⟩ := u
  obtain ⟨hrel2, hT2, hk2⟩ := hp
  have hrel2 : zA_removeRule V2 (xs (n + 1)) (xs (n + 2)) k2 r2 W2 := hrel2
  have hT2 : zMT sc2 g2 W2 := hT2
  have hk2 : sc2 0 = nI k2 := hk2
  have hw : zHA E ((Y1 ++ [(o, zoc E (zov ov k1 r1))]) ++ zMw E y ad sc2 g2) C1 s H locs := hw
  obtain ⟨hk, hrr, hE2⟩ := zd_removeRule hE hlS hlR hrel hrel2
  have hI1 := zk_removeRule hI hrel
  subst hk
  refine lv_istore hx hb dL_law_962 hl (by decide) rfl (fun ls hl => ?_)
  have hl : lv_has ls 7 [(6, .int r2), (5, .int (nI k1)), (0, .ref b), (1, .ref x), (2, .ref y), (3, .ref o), (4, .int (nI n))] := hl
  refine lv_aload_n hx hb dL_law_964 rfl (lv_at hl 4 rfl) ?_
  refine z_goe hw.2 (z_runV Cx hw (c_X8_thrown E l (Y1 ++ [(o, zoc E (zov ov k1 r1))]) C1 y ad sc2 g2) (cwV 0 Cx.1.2.2.2.2 gL_law_X8_thrown rfl rfl rfl (by decide +kernel) ⟨(Nat.le_of_ble_eq_true rfl), (Nat.le_of_ble_eq_true rfl)⟩) (z_recv Cx hw (r := (RX8, TX8, 26)) zM_x rfl) rfl hl.1 rfl (Nat.le_of_ble_eq_true rfl) dL_law_965 ⟨hc, hs⟩) (fun H locs hw => ?_)
  rw [hk2]
  refine lv_iload hx hb dL_law_968 (lv_at hl 1 rfl) ?_
  refine lv_icmp_eq (tgt := 975) hx hb dL_law_970 (by decide) (fun _ => ?_) (fun h => absurd rfl h)
  refine lv_iload hx hb dL_law_975 (lv_at hl 1 rfl) ?_
  have hend : W p l e room_1 s m #[Value.ref b] below meth c H locs (cells + 20 + 0 + 0) (slots + 200 + 0 + 0) Q (F0 m 992 ls []) := by
    refine lv_goto (tgt := 1551) hx hb dL_law_992 (by decide) ?_
    exact kk _ _ _ _ _ _ _ _ _ ls ⟨⟨hw.1.perm z_swap, hw.2⟩, hrc1, hT2, hI1, hE2⟩ (lv_sub hl [2, 3, 4, 5, 6] rfl)
  refine lv_if_ne (tgt := 992) hx hb dL_law_977 (by decide) (fun _ => hend) (fun h0 => ?_)
  have hk0 : k1 = 0 := zk_eq0 hk3 h0
  refine lv_aload_n hx hb dL_law_980 rfl (lv_at hl 5 rfl) ?_
  refine lv_iconst (v := 0) hx hb dL_law_981 (by decide) ?_
  refine zl_lald Cx hw dL_law_982 ?_
  rw [zov_0 hk0, hrr hk0]
  refine lv_iload hx hb dL_law_983 (lv_at hl 0 rfl) ?_
  refine lv_i2l hx hb dL_law_985 rfl ?_
  refine W.lcmp hx hb dL_law_986 ?_
  rw [lg_cmp_self]
  exact lv_if_eq (tgt := 992) hx hb dL_law_987 (by decide) (fun _ => hend) (fun h => absurd rfl h)

theorem zle_setRoute {V V' : zCl} {f b z pe : Int32} {c : Nat} {r : Int32} (h : zA_setRoute V f b z pe c r V') : c ≤ 3 := h.le (by decide) (fun ⟨_, _, _, _, h⟩ => h.le (by decide) (fun h => h.le (by decide) (fun h => by rw [h.1]; decide)))
set_option maxRecDepth 100000 in
set_option maxHeartbeats 4000000 in
theorem law_setRoute {p : Program} {l : Launch} {e : Env} {s : State} {m : MethodId} {below : List Frame} {meth : Method} {c : Code} {Q : State → Prop} {E : zG} {b L : Nat} {xs : Nat → Int32} (hl0 : l.stackTraces = false) (Cx : zC E p s m #[Value.ref b] meth c RL cL_law wsL_law 7) (hnc : zNc s) (hX : va_X b L xs s s.heap) (hbl : b < s.heap.size) (hbA : ¬ eA E b) {n y x o cells slots : Nat} {ad : Nat → Nat} {sc : Nat → Int32} {g : Nat → Nat → Int32} {ov : Nat → Int64} {Y : va_W} {C : zLs} {V V2 : zCl} {H : Heap} {locs : List Loc} {ls : Array Slot} (hn : n + 9 ≤ L) (hL : L ≤ 4608) (hc : cells + 20 ≤ room_1.cells) (hs : slots + 200 ≤ room_1.slots) (St : zSt E y x o ad s sc g ov Y C V V2 H locs) (hl : lv_has ls 7 [(0, .ref b), (1, .ref x), (2, .ref y), (3, .ref o), (4, .int (nI n))])
    (kk : zKK p l e s m b below meth c Q E y x o ad n (cells + 20) (slots + 200) 1551) : W p l e room_1 s m #[Value.ref b] below meth c H locs cells slots Q (F0 m 995 ls []) := by
  obtain ⟨hw, hrc, hT, hI, hE⟩ := St
  have hx := Cx.1.1
  have hb := Cx.1.2.1
  have hI2 := zInv_eqv hI hE
  have hlN : (vN V).length ≤ 1000 := by rw [hE.1]; exact Nat.le_trans hT.1.1.2.1 (by omega)
  have hlS : (vS V).length ≤ 1000 := by rw [hE.len]; exact Nat.le_trans hT.1.2.1.2.1 (by omega)
  have hlH : (vH V).length ≤ 1000 := by rw [hE.2.2.1]; exact Nat.le_trans hT.1.2.2.1.2.1 (by omega)
  have hlG : (vG V).length ≤ 1000 := by rw [hE.2.2.2.2]; exact Nat.le_trans hT.1.2.2.2.2.2.1 (by omega)
  refine lv_aload_n hx hb dL_law_995 rfl (lv_at hl 1 rfl) ?_
  refine lv_aload_n hx hb dL_law_996 rfl (lv_at hl 0 rfl) ?_
  refine lv_iload hx hb dL_law_997 (lv_at hl 4 rfl) ?_
  refine lv_iconst (v := nI 1) hx hb dL_law_999 rfl ?_
  refine lv_iadd hx hb dL_law_1000 ?_
  refine lv_topi (fun q1000 e1000 => ?_)
  rw [nI_add] at e1000
  subst e1000
  refine zl_sld Cx hX hbl hbA hw (show n + 1 < L by omega) hL dL_law_1001 ?_
  refine lv_aload_n hx hb dL_law_1002 rfl (lv_at hl 0 rfl) ?_
  refine lv_iload hx hb dL_law_1003 (lv_at hl 4 rfl) ?_
  refine lv_iconst (v := nI 2) hx hb dL_law_1005 rfl ?_
  refine lv_iadd hx hb dL_law_1006 ?_
  refine lv_topi (fun q1006 e1006 => ?_)
  rw [nI_add] at e1006
  subst e1006
  refine zl_sld Cx hX hbl hbA hw (show n + 2 < L by omega) hL dL_law_1007 ?_
  refine lv_aload_n hx hb dL_law_1008 rfl (lv_at hl 0 rfl) ?_
  refine lv_iload hx hb dL_law_1009 (lv_at hl 4 rfl) ?_
  refine lv_iconst (v := nI 3) hx hb dL_law_1011 rfl ?_
  refine lv_iadd hx hb dL_law_1012 ?_
  refine lv_topi (fun q1012 e1012 => ?_)
  rw [nI_add] at e1012
  subst e1012
  refine zl_sld Cx hX hbl hbA hw (show n + 3 < L by omega) hL dL_law_1013 ?_
  refine lv_aload_n hx hb dL_law_1014 rfl (lv_at hl 0 rfl) ?_
  refine lv_iload hx hb dL_law_1015 (lv_at hl 4 rfl) ?_
  refine lv_iconst (v := nI 4) hx hb dL_law_1017 rfl ?_
  refine lv_iadd hx hb dL_law_1018 ?_
  refine lv_topi (fun q1018 e1018 => ?_)
  rw [nI_add] at e1018
  subst e1018
  refine zl_sld Cx hX hbl hbA hw (show n + 4 < L by omega) hL dL_law_1019 ?_
  refine lv_aload_n hx hb dL_law_1020 rfl (lv_at hl 3 rfl) ?_
  refine z_goi (wf := zWL E (zMw E y ad sc g) o ov) hw.2 (z_runSW Cx hnc hw (c_L_setRoute E l hl0 (zMw E y ad sc g) Y C x o ov V hrc (xs (n + 1)) (xs (n + 2)) (xs (n + 3)) (xs (n + 4))) (vx_cwSW 6 Cx.1.2.2.2.2 (zgs2 gL_law_L_setRoute) rfl rfl rfl (by decide +kernel) ⟨(Nat.le_of_ble_eq_true rfl), (Nat.le_of_ble_eq_true rfl)⟩) rfl hl.1 rfl (Nat.le_of_ble_eq_true rfl) dL_law_1021 ⟨hc, hs⟩) (fun r u H locs hp hw => ?_)
  obtain ⟨⟨Y1, C1⟩, k1, r1, V1⟩ := u
  obtain ⟨hr1, hrel, hrc1⟩ := hp
  have hr1 : r = nI k1 := hr1
  subst hr1
  have hrel : zA_setRoute V (xs (n + 1)) (xs (n + 2)) (xs (n + 3)) (xs (n + 4)) k1 r1 V1 := hrel
  have hrc1 : zRC Y1 C1 x V1 := hrc1
  have hw : zHA E ((zMw E y ad sc g ++ [(o, zoc E (zov ov k1 r1))]) ++ Y1) C1 s H locs := hw
  have hk3 := zle_setRoute (V' := V1) hrel
  refine lv_istore hx hb dL_law_1024 hl (by decide) rfl (fun ls hl => ?_)
  have hl : lv_has ls 7 [(5, .int (nI k1)), (0, .ref b), (1, .ref x), (2, .ref y), (3, .ref o), (4, .int (nI n))] := hl
  have hw : zHA E ((Y1 ++ [(o, zoc E (zov ov k1 r1))]) ++ zMw E y ad sc g) C1 s H locs := ⟨hw.1.perm z_swap, hw.2⟩
  refine lv_aload_n hx hb dL_law_1026 rfl (lv_at hl 3 rfl) ?_
  refine lv_aload_n hx hb dL_law_1027 rfl (lv_at hl 1 rfl) ?_
  refine lv_iload hx hb dL_law_1028 (lv_at hl 5 rfl) ?_
  refine lv_iconst (v := nI 1) hx hb dL_law_1030 rfl ?_
  refine lv_iadd hx hb dL_law_1031 ?_
  refine lv_topi (fun q1031 e1031 => ?_)
  rw [nI_add] at e1031
  subst e1031
  refine zl_sld Cx hX hbl hbA hw (show n + 1 < L by omega) hL dL_law_1032 ?_
  refine lv_aload_n hx hb dL_law_1033 rfl (lv_at hl 1 rfl) ?_
  refine lv_iload hx hb dL_law_1034 (lv_at hl 5 rfl) ?_
  refine lv_iconst (v := nI 2) hx hb dL_law_1036 rfl ?_
  refine lv_iadd hx hb dL_law_1037 ?_
  refine lv_topi (fun q1037 e1037 => ?_)
  rw [nI_add] at e1037
  subst e1037
  refine zl_sld Cx hX hbl hbA hw (show n + 2 < L by omega) hL dL_law_1038 ?_
  refine lv_aload_n hx hb dL_law_1039 rfl (lv_at hl 1 rfl) ?_
  refine lv_iload hx hb dL_law_1040 (lv_at hl 5 rfl) ?_
  refine lv_iconst (v := nI 3) hx hb dL_law_1042 rfl ?_
  refine lv_iadd hx hb dL_law_1043 ?_
  refine lv_topi (fun q1043 e1043 => ?_)
  rw [nI_add] at e1043
  subst e1043
  refine zl_sld Cx hX hbl hbA hw (show n + 3 < L by omega) hL dL_law_1044 ?_
  refine lv_aload_n hx hb dL_law_1045 rfl (lv_at hl 1 rfl) ?_
  refine lv_iload hx hb dL_law_1046 (lv_at hl 5 rfl) ?_
  refine lv_iconst (v := nI 4) hx hb dL_law_1048 rfl ?_
  refine lv_iadd hx hb dL_law_1049 ?_
  refine lv_topi (fun q1049 e1049 => ?_)
  rw [nI_add] at e1049
  subst e1049
  refine zl_sld Cx hX hbl hbA hw (show n + 4 < L by omega) hL dL_law_1050 ?_
  refine z_goi (wf := fun (u : zU) => zQ E ((Y1 ++ [(o, zoc E (zov ov k1 r1))]) ++ zMw E y ad u.2.1 u.2.2.1) C1) hw.2 (z_runV Cx hw (c_m_setRoute E l (Y1 ++ [(o, zoc E (zov ov k1 r1))]) C1 y ad sc g V2 hT hI2 (xs (n + 1)) (xs (n + 2)) (xs (n + 3)) (xs (n + 4))) (cwV 4 Cx.1.2.2.2.2 gL_law_X8_setRoute rfl rfl rfl (by decide +kernel) ⟨(Nat.le_of_ble_eq_true rfl), (Nat.le_of_ble_eq_true rfl)⟩) (z_recv Cx hw (r := (RX8, TX8, 26)) zM_x rfl) rfl hl.1 rfl (Nat.le_of_ble_eq_true rfl) dL_law_1051 ⟨hc, hs⟩) (fun r2 u H locs hp hw => ?_)
  obtain ⟨k2, sc2, g2, W2⟩ := u
  obtain ⟨hrel2, hT2, hk2⟩ := hp
  have hrel2 : zA_setRoute V2 (xs (n + 1)) (xs (n + 2)) (xs (n + 3)) (xs (n + 4)) k2 r2 W2 := hrel2
  have hT2 : zMT sc2 g2 W2 := hT2
  have hk2 : sc2 0 = nI k2 := hk2
  have hw : zHA E ((Y1 ++ [(o, zoc E (zov ov k1 r1))]) ++ zMw E y ad sc2 g2) C1 s H locs := hw
  obtain ⟨hk, hrr, hE2⟩ := zd_setRoute hI hE hlS hrel hrel2
  have hI1 := zk_setRoute hI hrel
  subst hk
  refine lv_istore hx hb dL_law_1054 hl (by decide) rfl (fun ls hl => ?_)
  have hl : lv_has ls 7 [(6, .int r2), (5, .int (nI k1)), (0, .ref b), (1, .ref x), (2, .ref y), (3, .ref o), (4, .int (nI n))] := hl
  refine lv_aload_n hx hb dL_law_1056 rfl (lv_at hl 4 rfl) ?_
  refine z_goe hw.2 (z_runV Cx hw (c_X8_thrown E l (Y1 ++ [(o, zoc E (zov ov k1 r1))]) C1 y ad sc2 g2) (cwV 0 Cx.1.2.2.2.2 gL_law_X8_thrown rfl rfl rfl (by decide +kernel) ⟨(Nat.le_of_ble_eq_true rfl), (Nat.le_of_ble_eq_true rfl)⟩) (z_recv Cx hw (r := (RX8, TX8, 26)) zM_x rfl) rfl hl.1 rfl (Nat.le_of_ble_eq_true rfl) dL_law_1057 ⟨hc, hs⟩) (fun H locs hw => ?_)
  rw [hk2]
  refine lv_iload hx hb dL_law_1060 (lv_at hl 1 rfl) ?_
  refine lv_icmp_eq (tgt := 1067) hx hb dL_law_1062 (by decide) (fun _ => ?_) (fun h => absurd rfl h)
  refine lv_iload hx hb dL_law_1067 (lv_at hl 1 rfl) ?_
  have hend : W p l e room_1 s m #[Value.ref b] below meth c H locs (cells + 20 + 0 + 0) (slots + 200 + 0 + 0) Q (F0 m 1084 ls []) := by
    refine lv_goto (tgt := 1551) hx hb dL_law_1084 (by decide) ?_
    exact kk _ _ _ _ _ _ _ _ _ ls ⟨⟨hw.1.perm z_swap, hw.2⟩, hrc1, hT2, hI1, hE2⟩ (lv_sub hl [2, 3, 4, 5, 6] rfl)
  refine lv_if_ne (tgt := 1084) hx hb dL_law_1069 (by decide) (fun _ => hend) (fun h0 => ?_)
  have hk0 : k1 = 0 := zk_eq0 hk3 h0
  refine lv_aload_n hx hb dL_law_1072 rfl (lv_at hl 5 rfl) ?_
  refine lv_iconst (v := 0) hx hb dL_law_1073 (by decide) ?_
  refine zl_lald Cx hw dL_law_1074 ?_
  rw [zov_0 hk0, hrr hk0]
  refine lv_iload hx hb dL_law_1075 (lv_at hl 0 rfl) ?_
  refine lv_i2l hx hb dL_law_1077 rfl ?_
  refine W.lcmp hx hb dL_law_1078 ?_
  rw [lg_cmp_self]
  exact lv_if_eq (tgt := 1084) hx hb dL_law_1079 (by decide) (fun _ => hend) (fun h => absurd rfl h)

theorem zle_routeFor {V V' : zCl} {f a : Int32} {c : Nat} {r : Int32} (h : zA_routeFor V f a c r) : c ≤ 3 := by
  rcases h with ⟨e, -⟩ | ⟨e, -⟩ | ⟨e, -⟩ <;> omega
set_option maxRecDepth 100000 in
set_option maxHeartbeats 4000000 in
theorem law_routeFor {p : Program} {l : Launch} {e : Env} {s : State} {m : MethodId} {below : List Frame} {meth : Method} {c : Code} {Q : State → Prop} {E : zG} {b L : Nat} {xs : Nat → Int32} (hl0 : l.stackTraces = false) (Cx : zC E p s m #[Value.ref b] meth c RL cL_law wsL_law 7) (hnc : zNc s) (hX : va_X b L xs s s.heap) (hbl : b < s.heap.size) (hbA : ¬ eA E b) {n y x o cells slots : Nat} {ad : Nat → Nat} {sc : Nat → Int32} {g : Nat → Nat → Int32} {ov : Nat → Int64} {Y : va_W} {C : zLs} {V V2 : zCl} {H : Heap} {locs : List Loc} {ls : Array Slot} (hn : n + 9 ≤ L) (hL : L ≤ 4608) (hc : cells + 20 ≤ room_1.cells) (hs : slots + 200 ≤ room_1.slots) (St : zSt E y x o ad s sc g ov Y C V V2 H locs) (hl : lv_has ls 7 [(0, .ref b), (1, .ref x), (2, .ref y), (3, .ref o), (4, .int (nI n))])
    (kk : zKK p l e s m b below meth c Q E y x o ad n (cells + 20) (slots + 200) 1551) : W p l e room_1 s m #[Value.ref b] below meth c H locs cells slots Q (F0 m 1087 ls []) := by
  obtain ⟨hw, hrc, hT, hI, hE⟩ := St
  have hx := Cx.1.1
  have hb := Cx.1.2.1
  have hI2 := zInv_eqv hI hE
  have hlN : (vN V).length ≤ 1000 := by rw [hE.1]; exact Nat.le_trans hT.1.1.2.1 (by omega)
  have hlS : (vS V).length ≤ 1000 := by rw [hE.len]; exact Nat.le_trans hT.1.2.1.2.1 (by omega)
  have hlH : (vH V).length ≤ 1000 := by rw [hE.2.2.1]; exact Nat.le_trans hT.1.2.2.1.2.1 (by omega)
  have hlG : (vG V).length ≤ 1000 := by rw [hE.2.2.2.2]; exact Nat.le_trans hT.1.2.2.2.2.2.1 (by omega)
  refine lv_aload_n hx hb dL_law_1087 rfl (lv_at hl 1 rfl) ?_
  refine lv_aload_n hx hb dL_law_1088 rfl (lv_at hl 0 rfl) ?_
  refine lv_iload hx hb dL_law_1089 (lv_at hl 4 rfl) ?_
  refine lv_iconst (v := nI 1) hx hb dL_law_1091 rfl ?_
  refine lv_iadd hx hb dL_law_1092 ?_
  refine lv_topi (fun q1092 e1092 => ?_)
  rw [nI_add] at e1092
  subst e1092
  refine zl_sld Cx hX hbl hbA hw (show n + 1 < L by omega) hL dL_law_1093 ?_
  refine lv_aload_n hx hb dL_law_1094 rfl (lv_at hl 0 rfl) ?_
  refine lv_iload hx hb dL_law_1095 (lv_at hl 4 rfl) ?_
  refine lv_iconst (v := nI 2) hx hb dL_law_1097 rfl ?_
  refine lv_iadd hx hb dL_law_1098 ?_
  refine lv_topi (fun q1098 e1098 => ?_)
  rw [nI_add] at e1098
  subst e1098
  refine zl_sld Cx hX hbl hbA hw (show n + 2 < L by omega) hL dL_law_1099 ?_
  refine lv_aload_n hx hb dL_law_1100 rfl (lv_at hl 3 rfl) ?_
  refine z_goi (wf := zWL E (zMw E y ad sc g) o ov) hw.2 (z_runSW Cx hnc hw (c_L_routeFor E l hl0 (zMw E y ad sc g) Y C x o ov V hrc (xs (n + 1)) (xs (n + 2))) (vx_cwSW 4 Cx.1.2.2.2.2 (zgs2 gL_law_L_routeFor) rfl rfl rfl (by decide +kernel) ⟨(Nat.le_of_ble_eq_true rfl), (Nat.le_of_ble_eq_true rfl)⟩) rfl hl.1 rfl (Nat.le_of_ble_eq_true rfl) dL_law_1101 ⟨hc, hs⟩) (fun r u H locs hp hw => ?_)
  obtain ⟨⟨Y1, C1⟩, k1, r1, V1⟩ := u
  obtain ⟨hr1, hrel, hrc1⟩ := hp
  have hr1 : r = nI k1 := hr1
  subst hr1
  have hrel : V1 = V ∧ zA_routeFor V (xs (n + 1)) (xs (n + 2)) k1 r1 := hrel
  have hrc1 : zRC Y1 C1 x V1 := hrc1
  have hw : zHA E ((zMw E y ad sc g ++ [(o, zoc E (zov ov k1 r1))]) ++ Y1) C1 s H locs := hw
  obtain ⟨rfl, hrel⟩ := hrel
  have hk3 := zle_routeFor (V' := V1) hrel
  refine lv_istore hx hb dL_law_1104 hl (by decide) rfl (fun ls hl => ?_)
  have hl : lv_has ls 7 [(5, .int (nI k1)), (0, .ref b), (1, .ref x), (2, .ref y), (3, .ref o), (4, .int (nI n))] := hl
  have hw : zHA E ((Y1 ++ [(o, zoc E (zov ov k1 r1))]) ++ zMw E y ad sc g) C1 s H locs := ⟨hw.1.perm z_swap, hw.2⟩
  refine lv_aload_n hx hb dL_law_1106 rfl (lv_at hl 3 rfl) ?_
  refine lv_aload_n hx hb dL_law_1107 rfl (lv_at hl 1 rfl) ?_
  refine lv_iload hx hb dL_law_1108 (lv_at hl 5 rfl) ?_
  refine lv_iconst (v := nI 1) hx hb dL_law_1110 rfl ?_
  refine lv_iadd hx hb dL_law_1111 ?_
  refine lv_topi (fun q1111 e1111 => ?_)
  rw [nI_add] at e1111
  subst e1111
  refine zl_sld Cx hX hbl hbA hw (show n + 1 < L by omega) hL dL_law_1112 ?_
  refine lv_aload_n hx hb dL_law_1113 rfl (lv_at hl 1 rfl) ?_
  refine lv_iload hx hb dL_law_1114 (lv_at hl 5 rfl) ?_
  refine lv_iconst (v := nI 2) hx hb dL_law_1116 rfl ?_
  refine lv_iadd hx hb dL_law_1117 ?_
  refine lv_topi (fun q1117 e1117 => ?_)
  rw [nI_add] at e1117
  subst e1117
  refine zl_sld Cx hX hbl hbA hw (show n + 2 < L by omega) hL dL_law_1118 ?_
  refine z_goi (wf := fun (c : Nat) => zQ E ((Y1 ++ [(o, zoc E (zov ov k1 r1))]) ++ zMw E y ad (va_up sc 0 (nI c)) g) C1) hw.2 (z_runV Cx hw (c_m_routeFor E l (Y1 ++ [(o, zoc E (zov ov k1 r1))]) C1 y ad sc g V2 hT.1 hI2 (xs (n + 1)) (xs (n + 2))) (cwV 2 Cx.1.2.2.2.2 gL_law_X8_routeFor rfl rfl rfl (by decide +kernel) ⟨(Nat.le_of_ble_eq_true rfl), (Nat.le_of_ble_eq_true rfl)⟩) (z_recv Cx hw (r := (RX8, TX8, 26)) zM_x rfl) rfl hl.1 rfl (Nat.le_of_ble_eq_true rfl) dL_law_1119 ⟨hc, hs⟩) (fun r2 k2 H locs hp hw => ?_)
  have hrel2 : zA_routeFor V2 (xs (n + 1)) (xs (n + 2)) k2 r2 := hp
  obtain ⟨hk, hrr, hE2⟩ := zd_routeFor hI hE hlS hrel hrel2
  have hI1 := hI
  subst hk
  obtain ⟨sc2, hs2⟩ : ∃ sc2, sc2 = va_up sc 0 (nI k1) := ⟨_, rfl⟩
  have hT2 : zMT sc2 g V2 := by rw [hs2]; exact zMT_0 hT _
  have hk2 : sc2 0 = nI k1 := by rw [hs2]; exact va_up_self _ _ _
  have hw : zHA E ((Y1 ++ [(o, zoc E (zov ov k1 r1))]) ++ zMw E y ad sc2 g) C1 s H locs := by rw [hs2]; exact hw
  refine lv_istore hx hb dL_law_1122 hl (by decide) rfl (fun ls hl => ?_)
  have hl : lv_has ls 7 [(6, .int r2), (5, .int (nI k1)), (0, .ref b), (1, .ref x), (2, .ref y), (3, .ref o), (4, .int (nI n))] := hl
  refine lv_aload_n hx hb dL_law_1124 rfl (lv_at hl 4 rfl) ?_
  refine z_goe hw.2 (z_runV Cx hw (c_X8_thrown E l (Y1 ++ [(o, zoc E (zov ov k1 r1))]) C1 y ad sc2 g) (cwV 0 Cx.1.2.2.2.2 gL_law_X8_thrown rfl rfl rfl (by decide +kernel) ⟨(Nat.le_of_ble_eq_true rfl), (Nat.le_of_ble_eq_true rfl)⟩) (z_recv Cx hw (r := (RX8, TX8, 26)) zM_x rfl) rfl hl.1 rfl (Nat.le_of_ble_eq_true rfl) dL_law_1125 ⟨hc, hs⟩) (fun H locs hw => ?_)
  rw [hk2]
  refine lv_iload hx hb dL_law_1128 (lv_at hl 1 rfl) ?_
  refine lv_icmp_eq (tgt := 1135) hx hb dL_law_1130 (by decide) (fun _ => ?_) (fun h => absurd rfl h)
  refine lv_iload hx hb dL_law_1135 (lv_at hl 1 rfl) ?_
  have hend : W p l e room_1 s m #[Value.ref b] below meth c H locs (cells + 20 + 0 + 0) (slots + 200 + 0 + 0) Q (F0 m 1152 ls []) := by
    refine lv_goto (tgt := 1551) hx hb dL_law_1152 (by decide) ?_
    exact kk _ _ _ _ _ _ _ _ _ ls ⟨⟨hw.1.perm z_swap, hw.2⟩, hrc1, hT2, hI1, hE2⟩ (lv_sub hl [2, 3, 4, 5, 6] rfl)
  refine lv_if_ne (tgt := 1152) hx hb dL_law_1137 (by decide) (fun _ => hend) (fun h0 => ?_)
  have hk0 : k1 = 0 := zk_eq0 hk3 h0
  refine lv_aload_n hx hb dL_law_1140 rfl (lv_at hl 5 rfl) ?_
  refine lv_iconst (v := 0) hx hb dL_law_1141 (by decide) ?_
  refine zl_lald Cx hw dL_law_1142 ?_
  rw [zov_0 hk0, hrr hk0]
  refine lv_iload hx hb dL_law_1143 (lv_at hl 0 rfl) ?_
  refine lv_i2l hx hb dL_law_1145 rfl ?_
  refine W.lcmp hx hb dL_law_1146 ?_
  rw [lg_cmp_self]
  exact lv_if_eq (tgt := 1152) hx hb dL_law_1147 (by decide) (fun _ => hend) (fun h => absurd rfl h)

theorem zle_ports {V V' : zCl} {f t : Int32} {c : Nat} {r : Int32} (h : zA_ports V f t c r) : c ≤ 3 := by
  rcases h with ⟨e, -⟩ | ⟨e, -⟩ | ⟨e, -⟩ <;> omega
set_option maxRecDepth 100000 in
set_option maxHeartbeats 4000000 in
theorem law_ports {p : Program} {l : Launch} {e : Env} {s : State} {m : MethodId} {below : List Frame} {meth : Method} {c : Code} {Q : State → Prop} {E : zG} {b L : Nat} {xs : Nat → Int32} (hl0 : l.stackTraces = false) (Cx : zC E p s m #[Value.ref b] meth c RL cL_law wsL_law 7) (hnc : zNc s) (hX : va_X b L xs s s.heap) (hbl : b < s.heap.size) (hbA : ¬ eA E b) {n y x o cells slots : Nat} {ad : Nat → Nat} {sc : Nat → Int32} {g : Nat → Nat → Int32} {ov : Nat → Int64} {Y : va_W} {C : zLs} {V V2 : zCl} {H : Heap} {locs : List Loc} {ls : Array Slot} (hn : n + 9 ≤ L) (hL : L ≤ 4608) (hc : cells + 20 ≤ room_1.cells) (hs : slots + 200 ≤ room_1.slots) (St : zSt E y x o ad s sc g ov Y C V V2 H locs) (hl : lv_has ls 7 [(0, .ref b), (1, .ref x), (2, .ref y), (3, .ref o), (4, .int (nI n))])
    (kk : zKK p l e s m b below meth c Q E y x o ad n (cells + 20) (slots + 200) 1551) : W p l e room_1 s m #[Value.ref b] below meth c H locs cells slots Q (F0 m 1155 ls []) := by
  obtain ⟨hw, hrc, hT, hI, hE⟩ := St
  have hx := Cx.1.1
  have hb := Cx.1.2.1
  have hI2 := zInv_eqv hI hE
  have hlN : (vN V).length ≤ 1000 := by rw [hE.1]; exact Nat.le_trans hT.1.1.2.1 (by omega)
  have hlS : (vS V).length ≤ 1000 := by rw [hE.len]; exact Nat.le_trans hT.1.2.1.2.1 (by omega)
  have hlH : (vH V).length ≤ 1000 := by rw [hE.2.2.1]; exact Nat.le_trans hT.1.2.2.1.2.1 (by omega)
  have hlG : (vG V).length ≤ 1000 := by rw [hE.2.2.2.2]; exact Nat.le_trans hT.1.2.2.2.2.2.1 (by omega)
  refine lv_aload_n hx hb dL_law_1155 rfl (lv_at hl 1 rfl) ?_
  refine lv_aload_n hx hb dL_law_1156 rfl (lv_at hl 0 rfl) ?_
  refine lv_iload hx hb dL_law_1157 (lv_at hl 4 rfl) ?_
  refine lv_iconst (v := nI 1) hx hb dL_law_1159 rfl ?_
  refine lv_iadd hx hb dL_law_1160 ?_
  refine lv_topi (fun q1160 e1160 => ?_)
  rw [nI_add] at e1160
  subst e1160
  refine zl_sld Cx hX hbl hbA hw (show n + 1 < L by omega) hL dL_law_1161 ?_
  refine lv_aload_n hx hb dL_law_1162 rfl (lv_at hl 0 rfl) ?_
  refine lv_iload hx hb dL_law_1163 (lv_at hl 4 rfl) ?_
  refine lv_iconst (v := nI 2) hx hb dL_law_1165 rfl ?_
  refine lv_iadd hx hb dL_law_1166 ?_
  refine lv_topi (fun q1166 e1166 => ?_)
  rw [nI_add] at e1166
  subst e1166
  refine zl_sld Cx hX hbl hbA hw (show n + 2 < L by omega) hL dL_law_1167 ?_
  refine lv_aload_n hx hb dL_law_1168 rfl (lv_at hl 3 rfl) ?_
  refine z_goi (wf := zWL E (zMw E y ad sc g) o ov) hw.2 (z_runSW Cx hnc hw (c_L_ports E l hl0 (zMw E y ad sc g) Y C x o ov V hrc (xs (n + 1)) (xs (n + 2))) (vx_cwSW 4 Cx.1.2.2.2.2 (zgs2 gL_law_L_ports) rfl rfl rfl (by decide +kernel) ⟨(Nat.le_of_ble_eq_true rfl), (Nat.le_of_ble_eq_true rfl)⟩) rfl hl.1 rfl (Nat.le_of_ble_eq_true rfl) dL_law_1169 ⟨hc, hs⟩) (fun r u H locs hp hw => ?_)
  obtain ⟨⟨Y1, C1⟩, k1, r1, V1⟩ := u
  obtain ⟨hr1, hrel, hrc1⟩ := hp
  have hr1 : r = nI k1 := hr1
  subst hr1
  have hrel : V1 = V ∧ zA_ports V (xs (n + 1)) (xs (n + 2)) k1 r1 := hrel
  have hrc1 : zRC Y1 C1 x V1 := hrc1
  have hw : zHA E ((zMw E y ad sc g ++ [(o, zoc E (zov ov k1 r1))]) ++ Y1) C1 s H locs := hw
  obtain ⟨rfl, hrel⟩ := hrel
  have hk3 := zle_ports (V' := V1) hrel
  refine lv_istore hx hb dL_law_1172 hl (by decide) rfl (fun ls hl => ?_)
  have hl : lv_has ls 7 [(5, .int (nI k1)), (0, .ref b), (1, .ref x), (2, .ref y), (3, .ref o), (4, .int (nI n))] := hl
  have hw : zHA E ((Y1 ++ [(o, zoc E (zov ov k1 r1))]) ++ zMw E y ad sc g) C1 s H locs := ⟨hw.1.perm z_swap, hw.2⟩
  refine lv_aload_n hx hb dL_law_1174 rfl (lv_at hl 3 rfl) ?_
  refine lv_aload_n hx hb dL_law_1175 rfl (lv_at hl 1 rfl) ?_
  refine lv_iload hx hb dL_law_1176 (lv_at hl 5 rfl) ?_
  refine lv_iconst (v := nI 1) hx hb dL_law_1178 rfl ?_
  refine lv_iadd hx hb dL_law_1179 ?_
  refine lv_topi (fun q1179 e1179 => ?_)
  rw [nI_add] at e1179
  subst e1179
  refine zl_sld Cx hX hbl hbA hw (show n + 1 < L by omega) hL dL_law_1180 ?_
  refine lv_aload_n hx hb dL_law_1181 rfl (lv_at hl 1 rfl) ?_
  refine lv_iload hx hb dL_law_1182 (lv_at hl 5 rfl) ?_
  refine lv_iconst (v := nI 2) hx hb dL_law_1184 rfl ?_
  refine lv_iadd hx hb dL_law_1185 ?_
  refine lv_topi (fun q1185 e1185 => ?_)
  rw [nI_add] at e1185
  subst e1185
  refine zl_sld Cx hX hbl hbA hw (show n + 2 < L by omega) hL dL_law_1186 ?_
  refine z_goi (wf := fun (c : Nat) => zQ E ((Y1 ++ [(o, zoc E (zov ov k1 r1))]) ++ zMw E y ad (va_up sc 0 (nI c)) g) C1) hw.2 (z_runV Cx hw (c_m_ports E l (Y1 ++ [(o, zoc E (zov ov k1 r1))]) C1 y ad sc g V2 hT.1 hI2 (xs (n + 1)) (xs (n + 2))) (cwV 2 Cx.1.2.2.2.2 gL_law_X8_ports rfl rfl rfl (by decide +kernel) ⟨(Nat.le_of_ble_eq_true rfl), (Nat.le_of_ble_eq_true rfl)⟩) (z_recv Cx hw (r := (RX8, TX8, 26)) zM_x rfl) rfl hl.1 rfl (Nat.le_of_ble_eq_true rfl) dL_law_1187 ⟨hc, hs⟩) (fun r2 k2 H locs hp hw => ?_)
  have hrel2 : zA_ports V2 (xs (n + 1)) (xs (n + 2)) k2 r2 := hp
  obtain ⟨hk, hrr, hE2⟩ := zd_ports hI hE hlH hrel hrel2
  have hI1 := hI
  subst hk
  obtain ⟨sc2, hs2⟩ : ∃ sc2, sc2 = va_up sc 0 (nI k1) := ⟨_, rfl⟩
  have hT2 : zMT sc2 g V2 := by rw [hs2]; exact zMT_0 hT _
  have hk2 : sc2 0 = nI k1 := by rw [hs2]; exact va_up_self _ _ _
  have hw : zHA E ((Y1 ++ [(o, zoc E (zov ov k1 r1))]) ++ zMw E y ad sc2 g) C1 s H locs := by rw [hs2]; exact hw
  refine lv_istore hx hb dL_law_1190 hl (by decide) rfl (fun ls hl => ?_)
  have hl : lv_has ls 7 [(6, .int r2), (5, .int (nI k1)), (0, .ref b), (1, .ref x), (2, .ref y), (3, .ref o), (4, .int (nI n))] := hl
  refine lv_aload_n hx hb dL_law_1192 rfl (lv_at hl 4 rfl) ?_
  refine z_goe hw.2 (z_runV Cx hw (c_X8_thrown E l (Y1 ++ [(o, zoc E (zov ov k1 r1))]) C1 y ad sc2 g) (cwV 0 Cx.1.2.2.2.2 gL_law_X8_thrown rfl rfl rfl (by decide +kernel) ⟨(Nat.le_of_ble_eq_true rfl), (Nat.le_of_ble_eq_true rfl)⟩) (z_recv Cx hw (r := (RX8, TX8, 26)) zM_x rfl) rfl hl.1 rfl (Nat.le_of_ble_eq_true rfl) dL_law_1193 ⟨hc, hs⟩) (fun H locs hw => ?_)
  rw [hk2]
  refine lv_iload hx hb dL_law_1196 (lv_at hl 1 rfl) ?_
  refine lv_icmp_eq (tgt := 1203) hx hb dL_law_1198 (by decide) (fun _ => ?_) (fun h => absurd rfl h)
  refine lv_iload hx hb dL_law_1203 (lv_at hl 1 rfl) ?_
  have hend : W p l e room_1 s m #[Value.ref b] below meth c H locs (cells + 20 + 0 + 0) (slots + 200 + 0 + 0) Q (F0 m 1220 ls []) := by
    refine lv_goto (tgt := 1551) hx hb dL_law_1220 (by decide) ?_
    exact kk _ _ _ _ _ _ _ _ _ ls ⟨⟨hw.1.perm z_swap, hw.2⟩, hrc1, hT2, hI1, hE2⟩ (lv_sub hl [2, 3, 4, 5, 6] rfl)
  refine lv_if_ne (tgt := 1220) hx hb dL_law_1205 (by decide) (fun _ => hend) (fun h0 => ?_)
  have hk0 : k1 = 0 := zk_eq0 hk3 h0
  refine lv_aload_n hx hb dL_law_1208 rfl (lv_at hl 5 rfl) ?_
  refine lv_iconst (v := 0) hx hb dL_law_1209 (by decide) ?_
  refine zl_lald Cx hw dL_law_1210 ?_
  rw [zov_0 hk0, hrr hk0]
  refine lv_iload hx hb dL_law_1211 (lv_at hl 0 rfl) ?_
  refine lv_i2l hx hb dL_law_1213 rfl ?_
  refine W.lcmp hx hb dL_law_1214 ?_
  rw [lg_cmp_self]
  exact lv_if_eq (tgt := 1220) hx hb dL_law_1215 (by decide) (fun _ => hend) (fun h => absurd rfl h)


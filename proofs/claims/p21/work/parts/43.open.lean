set_option maxRecDepth 100000 in
set_option maxHeartbeats 4000000 in
/-- openPorts, part 1 -/
theorem c_open_1 (E : zG) (l : Launch) (Z : va_W) (C : zLs) (x : Nat) (ns ss : List Nat) (gvs : List (List zRl)) (pvs : List (Nat × Nat)) (hcf : zcf Z C x ns ss gvs pvs) (a b s1 s2 : Nat) (v1 v2 : zSv) (a1 g1 a2 g2 : Int32) (h1 : zhf Z C ns ss a s1 v1 a1 g1) (h2 : zhf Z C ns ss b s2 v2 a2 g2)  : Met l yX7_openPorts wsX7_openPorts (zR 5 0 0) (zPre E [.ref x, .int (nI 1), .ref a, .ref b] (zQ E Z C)) (zRi E (zQ E Z C) (zopen gvs pvs 1 s1 s2 v1 v2 a1 g1 a2 g2)) 0 0 (eA E) := by
  refine z_of (cc := cX7_openPorts) (maxL := 4) (ret := (some .int)) (by decide) rfl rfl (Nat.le_of_ble_eq_true rfl) ?_
  intro p e s m below meth c ls Cx hr hnm hw hl
  have hx := Cx.1.1
  have hb := Cx.1.2.1
  obtain ⟨q0, q1, q2, q3, q4, gs, ps, hx0, hq4, hgs, hgn, hq3, hps, hpn, hnd, hsd⟩ := hcf
  obtain ⟨sb1, hh1, hi1, hsf1⟩ := h1
  obtain ⟨sb2, hh2, hi2, hsf2⟩ := h2
  have hsf1' := hsf1
  have hsf2' := hsf2
  obtain ⟨nw1, bk1, rl1, rt1, e1, f1, k1, k2, k3, k4, k5, k6, k7, k8, k9⟩ := hsf1'
  obtain ⟨nw2, bk2, rl2, rt2, e2, f2, m1, m2, m3, m4, m5, m6, m7, m8, m9⟩ := hsf2'
  have hl : lv_has ls 4 [(0, .ref x), (1, .int (nI 1)), (2, .ref a), (3, .ref b)] := hl
  refine lv_aload_n hx hb dX7_openPorts_0 rfl (lv_at hl 2 rfl) ?_
  refine z_get Cx hw (T := TX2) (N := 3) (ci := 5) (fun _ h => List.mem_cons_of_mem _ (List.mem_append_left _ (List.mem_append_left _ (List.mem_append_left _ (List.mem_append_left _ (List.mem_append_left _ (List.mem_append_left _ (List.mem_append_left _ (List.mem_append_left _ (List.mem_append_right _ (h))))))))))) hh1 rfl 0 (by decide) (List.mem_of_getElem? (i := 1) rfl) rfl rfl dX7_openPorts_1 ?_
  refine lv_aload_n hx hb dX7_openPorts_4 rfl (lv_at hl 3 rfl) ?_
  refine z_get Cx hw (T := TX2) (N := 3) (ci := 5) (fun _ h => List.mem_cons_of_mem _ (List.mem_append_left _ (List.mem_append_left _ (List.mem_append_left _ (List.mem_append_left _ (List.mem_append_left _ (List.mem_append_left _ (List.mem_append_left _ (List.mem_append_left _ (List.mem_append_right _ (h))))))))))) hh2 rfl 0 (by decide) (List.mem_of_getElem? (i := 1) rfl) rfl rfl dX7_openPorts_5 ?_
  refine lv_acmp_ne (rx := some sb1) (ry := some sb2) (tgt := 24) hx hb dX7_openPorts_8 (by decide) (fun c_8 => ?_) (fun c_8 => ?_)
  · skip
    have hs12 : ¬ s1 = s2 := fun h => c_8 (by rw [(z_nd hsd hi1 hi2).mpr h])
    refine lv_iload_n hx hb dX7_openPorts_24 rfl (lv_at hl 1 rfl) ?_
    refine lv_tableIn (off := 43) (tgt := 68) hx hb dX7_openPorts_25 (by decide) (by decide) rfl (by decide) ?_
    refine lv_aload_n hx hb dX7_openPorts_68 rfl (lv_at hl 0 rfl) ?_
    refine lv_aload_n hx hb dX7_openPorts_69 rfl (lv_at hl 2 rfl) ?_
    refine lv_iconst (v := 0) hx hb dX7_openPorts_70 (by decide) ?_
    refine lv_aload_n hx hb dX7_openPorts_71 rfl (lv_at hl 3 rfl) ?_
    refine z_get Cx hw (T := TX2) (N := 3) (ci := 5) (fun _ h => List.mem_cons_of_mem _ (List.mem_append_left _ (List.mem_append_left _ (List.mem_append_left _ (List.mem_append_left _ (List.mem_append_left _ (List.mem_append_left _ (List.mem_append_left _ (List.mem_append_left _ (List.mem_append_right _ (h))))))))))) hh2 rfl 1 (by decide) (List.mem_of_getElem? (i := 3) rfl) rfl rfl dX7_openPorts_72 ?_
    refine z_goe hw.2 (z_runV Cx hw (c_X7_groupPorts E l Z C x q0 q1 q2 q3 q4 gs gvs hx0 hq4 hgs hgn a sb1 a1 g1 0 a2 hh1) (cwV 3 Cx.1.2.2.2.2 gX7_openPorts_X7_groupPorts rfl rfl rfl (by decide +kernel) ⟨Nat.le_of_ble_eq_true rfl, Nat.le_of_ble_eq_true rfl⟩) (z_recv Cx hw (r := (RX7, TX7, 5)) hx0 rfl) rfl hl.1 rfl (Nat.le_of_ble_eq_true rfl) dX7_openPorts_75 ⟨Nat.le_of_ble_eq_true rfl, Nat.le_of_ble_eq_true rfl⟩) (fun H locs hw => ?_)
    exact (z_ie Cx hr rfl (Nat.le_of_ble_eq_true rfl) (Nat.le_of_ble_eq_true rfl) hw dX7_openPorts_78 (by simp [zopen, hs12]))
  · skip
    have hs12 : s1 = s2 := (z_nd hsd hi1 hi2).mp (Option.some.inj c_8)
    refine lv_iload_n hx hb dX7_openPorts_11 rfl (lv_at hl 1 rfl) ?_
    refine lv_iconst (v := 1) hx hb dX7_openPorts_12 (by decide) ?_
    refine lv_icmp_eq (tgt := 24) hx hb dX7_openPorts_13 (by decide) (fun c_13 => ?_) (fun c_13 => ?_)
    · skip
      refine lv_iload_n hx hb dX7_openPorts_24 rfl (lv_at hl 1 rfl) ?_
      refine lv_tableIn (off := 43) (tgt := 68) hx hb dX7_openPorts_25 (by decide) (by decide) rfl (by decide) ?_
      refine lv_aload_n hx hb dX7_openPorts_68 rfl (lv_at hl 0 rfl) ?_
      refine lv_aload_n hx hb dX7_openPorts_69 rfl (lv_at hl 2 rfl) ?_
      refine lv_iconst (v := 0) hx hb dX7_openPorts_70 (by decide) ?_
      refine lv_aload_n hx hb dX7_openPorts_71 rfl (lv_at hl 3 rfl) ?_
      refine z_get Cx hw (T := TX2) (N := 3) (ci := 5) (fun _ h => List.mem_cons_of_mem _ (List.mem_append_left _ (List.mem_append_left _ (List.mem_append_left _ (List.mem_append_left _ (List.mem_append_left _ (List.mem_append_left _ (List.mem_append_left _ (List.mem_append_left _ (List.mem_append_right _ (h))))))))))) hh2 rfl 1 (by decide) (List.mem_of_getElem? (i := 3) rfl) rfl rfl dX7_openPorts_72 ?_
      refine z_goe hw.2 (z_runV Cx hw (c_X7_groupPorts E l Z C x q0 q1 q2 q3 q4 gs gvs hx0 hq4 hgs hgn a sb1 a1 g1 0 a2 hh1) (cwV 3 Cx.1.2.2.2.2 gX7_openPorts_X7_groupPorts rfl rfl rfl (by decide +kernel) ⟨Nat.le_of_ble_eq_true rfl, Nat.le_of_ble_eq_true rfl⟩) (z_recv Cx hw (r := (RX7, TX7, 5)) hx0 rfl) rfl hl.1 rfl (Nat.le_of_ble_eq_true rfl) dX7_openPorts_75 ⟨Nat.le_of_ble_eq_true rfl, Nat.le_of_ble_eq_true rfl⟩) (fun H locs hw => ?_)
      exact (z_ie Cx hr rfl (Nat.le_of_ble_eq_true rfl) (Nat.le_of_ble_eq_true rfl) hw dX7_openPorts_78 (by simp [zopen, hs12]))
    · skip
      exact absurd rfl c_13

set_option maxRecDepth 100000 in
set_option maxHeartbeats 4000000 in
/-- openPorts, part 2 -/
theorem c_open_2 (E : zG) (l : Launch) (Z : va_W) (C : zLs) (x : Nat) (ns ss : List Nat) (gvs : List (List zRl)) (pvs : List (Nat × Nat)) (hcf : zcf Z C x ns ss gvs pvs) (a b s1 s2 : Nat) (v1 v2 : zSv) (a1 g1 a2 g2 : Int32) (h1 : zhf Z C ns ss a s1 v1 a1 g1) (h2 : zhf Z C ns ss b s2 v2 a2 g2)  : Met l yX7_openPorts wsX7_openPorts (zR 5 0 0) (zPre E [.ref x, .int (nI 2), .ref a, .ref b] (zQ E Z C)) (zRi E (zQ E Z C) (zopen gvs pvs 2 s1 s2 v1 v2 a1 g1 a2 g2)) 0 0 (eA E) := by
  refine z_of (cc := cX7_openPorts) (maxL := 4) (ret := (some .int)) (by decide) rfl rfl (Nat.le_of_ble_eq_true rfl) ?_
  intro p e s m below meth c ls Cx hr hnm hw hl
  have hx := Cx.1.1
  have hb := Cx.1.2.1
  obtain ⟨q0, q1, q2, q3, q4, gs, ps, hx0, hq4, hgs, hgn, hq3, hps, hpn, hnd, hsd⟩ := hcf
  obtain ⟨sb1, hh1, hi1, hsf1⟩ := h1
  obtain ⟨sb2, hh2, hi2, hsf2⟩ := h2
  have hsf1' := hsf1
  have hsf2' := hsf2
  obtain ⟨nw1, bk1, rl1, rt1, e1, f1, k1, k2, k3, k4, k5, k6, k7, k8, k9⟩ := hsf1'
  obtain ⟨nw2, bk2, rl2, rt2, e2, f2, m1, m2, m3, m4, m5, m6, m7, m8, m9⟩ := hsf2'
  have hl : lv_has ls 4 [(0, .ref x), (1, .int (nI 2)), (2, .ref a), (3, .ref b)] := hl
  refine lv_aload_n hx hb dX7_openPorts_0 rfl (lv_at hl 2 rfl) ?_
  refine z_get Cx hw (T := TX2) (N := 3) (ci := 5) (fun _ h => List.mem_cons_of_mem _ (List.mem_append_left _ (List.mem_append_left _ (List.mem_append_left _ (List.mem_append_left _ (List.mem_append_left _ (List.mem_append_left _ (List.mem_append_left _ (List.mem_append_left _ (List.mem_append_right _ (h))))))))))) hh1 rfl 0 (by decide) (List.mem_of_getElem? (i := 1) rfl) rfl rfl dX7_openPorts_1 ?_
  refine lv_aload_n hx hb dX7_openPorts_4 rfl (lv_at hl 3 rfl) ?_
  refine z_get Cx hw (T := TX2) (N := 3) (ci := 5) (fun _ h => List.mem_cons_of_mem _ (List.mem_append_left _ (List.mem_append_left _ (List.mem_append_left _ (List.mem_append_left _ (List.mem_append_left _ (List.mem_append_left _ (List.mem_append_left _ (List.mem_append_left _ (List.mem_append_right _ (h))))))))))) hh2 rfl 0 (by decide) (List.mem_of_getElem? (i := 1) rfl) rfl rfl dX7_openPorts_5 ?_
  refine lv_acmp_ne (rx := some sb1) (ry := some sb2) (tgt := 24) hx hb dX7_openPorts_8 (by decide) (fun c_8 => ?_) (fun c_8 => ?_)
  · skip
    have hs12 : ¬ s1 = s2 := fun h => c_8 (by rw [(z_nd hsd hi1 hi2).mpr h])
    refine lv_iload_n hx hb dX7_openPorts_24 rfl (lv_at hl 1 rfl) ?_
    refine lv_tableIn (off := 54) (tgt := 79) hx hb dX7_openPorts_25 (by decide) (by decide) rfl (by decide) ?_
    refine lv_aload_n hx hb dX7_openPorts_79 rfl (lv_at hl 2 rfl) ?_
    refine z_get Cx hw (T := TX2) (N := 3) (ci := 5) (fun _ h => List.mem_cons_of_mem _ (List.mem_append_left _ (List.mem_append_left _ (List.mem_append_left _ (List.mem_append_left _ (List.mem_append_left _ (List.mem_append_left _ (List.mem_append_left _ (List.mem_append_left _ (List.mem_append_right _ (h))))))))))) hh1 rfl 0 (by decide) (List.mem_of_getElem? (i := 1) rfl) rfl rfl dX7_openPorts_80 ?_
    refine lv_iconst (v := 0) hx hb dX7_openPorts_83 (by decide) ?_
    refine lv_aload_n hx hb dX7_openPorts_84 rfl (lv_at hl 3 rfl) ?_
    refine z_get Cx hw (T := TX2) (N := 3) (ci := 5) (fun _ h => List.mem_cons_of_mem _ (List.mem_append_left _ (List.mem_append_left _ (List.mem_append_left _ (List.mem_append_left _ (List.mem_append_left _ (List.mem_append_left _ (List.mem_append_left _ (List.mem_append_left _ (List.mem_append_right _ (h))))))))))) hh2 rfl 1 (by decide) (List.mem_of_getElem? (i := 3) rfl) rfl rfl dX7_openPorts_85 ?_
    refine z_goe hw.2 (z_runV Cx hw (c_X6_listPorts E l Z C sb1 nw1 bk1 rt1 0 a2 rl1 e1 v1.2.2.1 k4 k5 k6 k1) (cwV 2 Cx.1.2.2.2.2 gX7_openPorts_X6_listPorts rfl rfl rfl (by decide +kernel) ⟨Nat.le_of_ble_eq_true rfl, Nat.le_of_ble_eq_true rfl⟩) (z_recv Cx hw (r := (RX6, TX6, 4)) k1 rfl) rfl hl.1 rfl (Nat.le_of_ble_eq_true rfl) dX7_openPorts_88 ⟨Nat.le_of_ble_eq_true rfl, Nat.le_of_ble_eq_true rfl⟩) (fun H locs hw => ?_)
    exact (z_ie Cx hr rfl (Nat.le_of_ble_eq_true rfl) (Nat.le_of_ble_eq_true rfl) hw dX7_openPorts_91 (by simp [zopen, hs12]))
  · skip
    have hs12 : s1 = s2 := (z_nd hsd hi1 hi2).mp (Option.some.inj c_8)
    refine lv_iload_n hx hb dX7_openPorts_11 rfl (lv_at hl 1 rfl) ?_
    refine lv_iconst (v := 1) hx hb dX7_openPorts_12 (by decide) ?_
    refine lv_icmp_eq (tgt := 24) hx hb dX7_openPorts_13 (by decide) (fun c_13 => ?_) (fun c_13 => ?_)
    · skip
      exact absurd c_13 (by decide)
    · skip
      refine lv_iload_n hx hb dX7_openPorts_16 rfl (lv_at hl 1 rfl) ?_
      refine lv_iconst (v := 5) hx hb dX7_openPorts_17 (by decide) ?_
      refine lv_icmp_eq (tgt := 24) hx hb dX7_openPorts_18 (by decide) (fun c_18 => ?_) (fun c_18 => ?_)
      · skip
        exact absurd c_18 (by decide)
      · skip
        refine lv_ldc hx hb Cx.1.2.2.2.1 (Cx.1.2.2.2.2 (Cond.constant RX7 225 (65535)) (List.mem_of_getElem? (i := 2) rfl)) dX7_openPorts_21 ?_
        exact (z_ie Cx hr rfl (Nat.le_of_ble_eq_true rfl) (Nat.le_of_ble_eq_true rfl) hw dX7_openPorts_23 (by simp [zopen, hs12]))

set_option maxRecDepth 100000 in
set_option maxHeartbeats 4000000 in
/-- openPorts, part 3 -/
theorem c_open_3 (E : zG) (l : Launch) (Z : va_W) (C : zLs) (x : Nat) (ns ss : List Nat) (gvs : List (List zRl)) (pvs : List (Nat × Nat)) (hcf : zcf Z C x ns ss gvs pvs) (a b s1 s2 : Nat) (v1 v2 : zSv) (a1 g1 a2 g2 : Int32) (h1 : zhf Z C ns ss a s1 v1 a1 g1) (h2 : zhf Z C ns ss b s2 v2 a2 g2)  : Met l yX7_openPorts wsX7_openPorts (zR 5 0 0) (zPre E [.ref x, .int (nI 3), .ref a, .ref b] (zQ E Z C)) (zRi E (zQ E Z C) (zopen gvs pvs 3 s1 s2 v1 v2 a1 g1 a2 g2)) 0 0 (eA E) := by
  refine z_of (cc := cX7_openPorts) (maxL := 4) (ret := (some .int)) (by decide) rfl rfl (Nat.le_of_ble_eq_true rfl) ?_
  intro p e s m below meth c ls Cx hr hnm hw hl
  have hx := Cx.1.1
  have hb := Cx.1.2.1
  obtain ⟨q0, q1, q2, q3, q4, gs, ps, hx0, hq4, hgs, hgn, hq3, hps, hpn, hnd, hsd⟩ := hcf
  obtain ⟨sb1, hh1, hi1, hsf1⟩ := h1
  obtain ⟨sb2, hh2, hi2, hsf2⟩ := h2
  have hsf1' := hsf1
  have hsf2' := hsf2
  obtain ⟨nw1, bk1, rl1, rt1, e1, f1, k1, k2, k3, k4, k5, k6, k7, k8, k9⟩ := hsf1'
  obtain ⟨nw2, bk2, rl2, rt2, e2, f2, m1, m2, m3, m4, m5, m6, m7, m8, m9⟩ := hsf2'
  have hl : lv_has ls 4 [(0, .ref x), (1, .int (nI 3)), (2, .ref a), (3, .ref b)] := hl
  refine lv_aload_n hx hb dX7_openPorts_0 rfl (lv_at hl 2 rfl) ?_
  refine z_get Cx hw (T := TX2) (N := 3) (ci := 5) (fun _ h => List.mem_cons_of_mem _ (List.mem_append_left _ (List.mem_append_left _ (List.mem_append_left _ (List.mem_append_left _ (List.mem_append_left _ (List.mem_append_left _ (List.mem_append_left _ (List.mem_append_left _ (List.mem_append_right _ (h))))))))))) hh1 rfl 0 (by decide) (List.mem_of_getElem? (i := 1) rfl) rfl rfl dX7_openPorts_1 ?_
  refine lv_aload_n hx hb dX7_openPorts_4 rfl (lv_at hl 3 rfl) ?_
  refine z_get Cx hw (T := TX2) (N := 3) (ci := 5) (fun _ h => List.mem_cons_of_mem _ (List.mem_append_left _ (List.mem_append_left _ (List.mem_append_left _ (List.mem_append_left _ (List.mem_append_left _ (List.mem_append_left _ (List.mem_append_left _ (List.mem_append_left _ (List.mem_append_right _ (h))))))))))) hh2 rfl 0 (by decide) (List.mem_of_getElem? (i := 1) rfl) rfl rfl dX7_openPorts_5 ?_
  refine lv_acmp_ne (rx := some sb1) (ry := some sb2) (tgt := 24) hx hb dX7_openPorts_8 (by decide) (fun c_8 => ?_) (fun c_8 => ?_)
  · skip
    have hs12 : ¬ s1 = s2 := fun h => c_8 (by rw [(z_nd hsd hi1 hi2).mpr h])
    refine lv_iload_n hx hb dX7_openPorts_24 rfl (lv_at hl 1 rfl) ?_
    refine lv_tableIn (off := 67) (tgt := 92) hx hb dX7_openPorts_25 (by decide) (by decide) rfl (by decide) ?_
    refine lv_aload_n hx hb dX7_openPorts_92 rfl (lv_at hl 0 rfl) ?_
    refine lv_aload_n hx hb dX7_openPorts_93 rfl (lv_at hl 2 rfl) ?_
    refine z_get Cx hw (T := TX2) (N := 3) (ci := 5) (fun _ h => List.mem_cons_of_mem _ (List.mem_append_left _ (List.mem_append_left _ (List.mem_append_left _ (List.mem_append_left _ (List.mem_append_left _ (List.mem_append_left _ (List.mem_append_left _ (List.mem_append_left _ (List.mem_append_right _ (h))))))))))) hh1 rfl 0 (by decide) (List.mem_of_getElem? (i := 1) rfl) rfl rfl dX7_openPorts_94 ?_
    refine lv_aload_n hx hb dX7_openPorts_97 rfl (lv_at hl 3 rfl) ?_
    refine z_goe hw.2 (z_runV Cx hw (c_X7_isRouted E l Z C x q0 q1 q2 q3 q4 ns ps pvs hx0 hq3 hps hpn hnd sb1 v1 hsf1 b sb2 v2 a2 g2 hh2 hsf2) (cwV 2 Cx.1.2.2.2.2 gX7_openPorts_X7_isRouted rfl rfl rfl (by decide +kernel) ⟨Nat.le_of_ble_eq_true rfl, Nat.le_of_ble_eq_true rfl⟩) (z_recv Cx hw (r := (RX7, TX7, 5)) hx0 rfl) rfl hl.1 rfl (Nat.le_of_ble_eq_true rfl) dX7_openPorts_98 ⟨Nat.le_of_ble_eq_true rfl, Nat.le_of_ble_eq_true rfl⟩) (fun H locs hw => ?_)
    refine z_goe hw.2 (z_runS Cx hw (c_X7_allOrNone E l (zQ E Z C) _) (va_cwS 1 Cx.1.2.2.2.2 gX7_openPorts_X7_allOrNone rfl rfl rfl (by decide +kernel) ⟨Nat.le_of_ble_eq_true rfl, Nat.le_of_ble_eq_true rfl⟩)  rfl hl.1 rfl (Nat.le_of_ble_eq_true rfl) dX7_openPorts_101 ⟨Nat.le_of_ble_eq_true rfl, Nat.le_of_ble_eq_true rfl⟩) (fun H locs hw => ?_)
    exact (z_ie Cx hr rfl (Nat.le_of_ble_eq_true rfl) (Nat.le_of_ble_eq_true rfl) hw dX7_openPorts_104 (by simp [zopen, hs12]))
  · skip
    have hs12 : s1 = s2 := (z_nd hsd hi1 hi2).mp (Option.some.inj c_8)
    refine lv_iload_n hx hb dX7_openPorts_11 rfl (lv_at hl 1 rfl) ?_
    refine lv_iconst (v := 1) hx hb dX7_openPorts_12 (by decide) ?_
    refine lv_icmp_eq (tgt := 24) hx hb dX7_openPorts_13 (by decide) (fun c_13 => ?_) (fun c_13 => ?_)
    · skip
      exact absurd c_13 (by decide)
    · skip
      refine lv_iload_n hx hb dX7_openPorts_16 rfl (lv_at hl 1 rfl) ?_
      refine lv_iconst (v := 5) hx hb dX7_openPorts_17 (by decide) ?_
      refine lv_icmp_eq (tgt := 24) hx hb dX7_openPorts_18 (by decide) (fun c_18 => ?_) (fun c_18 => ?_)
      · skip
        exact absurd c_18 (by decide)
      · skip
        refine lv_ldc hx hb Cx.1.2.2.2.1 (Cx.1.2.2.2.2 (Cond.constant RX7 225 (65535)) (List.mem_of_getElem? (i := 2) rfl)) dX7_openPorts_21 ?_
        exact (z_ie Cx hr rfl (Nat.le_of_ble_eq_true rfl) (Nat.le_of_ble_eq_true rfl) hw dX7_openPorts_23 (by simp [zopen, hs12]))

set_option maxRecDepth 100000 in
set_option maxHeartbeats 4000000 in
/-- openPorts, part 4 -/
theorem c_open_4 (E : zG) (l : Launch) (Z : va_W) (C : zLs) (x : Nat) (ns ss : List Nat) (gvs : List (List zRl)) (pvs : List (Nat × Nat)) (hcf : zcf Z C x ns ss gvs pvs) (a b s1 s2 : Nat) (v1 v2 : zSv) (a1 g1 a2 g2 : Int32) (h1 : zhf Z C ns ss a s1 v1 a1 g1) (h2 : zhf Z C ns ss b s2 v2 a2 g2)  : Met l yX7_openPorts wsX7_openPorts (zR 5 0 0) (zPre E [.ref x, .int (nI 4), .ref a, .ref b] (zQ E Z C)) (zRi E (zQ E Z C) (zopen gvs pvs 4 s1 s2 v1 v2 a1 g1 a2 g2)) 0 0 (eA E) := by
  refine z_of (cc := cX7_openPorts) (maxL := 4) (ret := (some .int)) (by decide) rfl rfl (Nat.le_of_ble_eq_true rfl) ?_
  intro p e s m below meth c ls Cx hr hnm hw hl
  have hx := Cx.1.1
  have hb := Cx.1.2.1
  obtain ⟨q0, q1, q2, q3, q4, gs, ps, hx0, hq4, hgs, hgn, hq3, hps, hpn, hnd, hsd⟩ := hcf
  obtain ⟨sb1, hh1, hi1, hsf1⟩ := h1
  obtain ⟨sb2, hh2, hi2, hsf2⟩ := h2
  have hsf1' := hsf1
  have hsf2' := hsf2
  obtain ⟨nw1, bk1, rl1, rt1, e1, f1, k1, k2, k3, k4, k5, k6, k7, k8, k9⟩ := hsf1'
  obtain ⟨nw2, bk2, rl2, rt2, e2, f2, m1, m2, m3, m4, m5, m6, m7, m8, m9⟩ := hsf2'
  have hl : lv_has ls 4 [(0, .ref x), (1, .int (nI 4)), (2, .ref a), (3, .ref b)] := hl
  refine lv_aload_n hx hb dX7_openPorts_0 rfl (lv_at hl 2 rfl) ?_
  refine z_get Cx hw (T := TX2) (N := 3) (ci := 5) (fun _ h => List.mem_cons_of_mem _ (List.mem_append_left _ (List.mem_append_left _ (List.mem_append_left _ (List.mem_append_left _ (List.mem_append_left _ (List.mem_append_left _ (List.mem_append_left _ (List.mem_append_left _ (List.mem_append_right _ (h))))))))))) hh1 rfl 0 (by decide) (List.mem_of_getElem? (i := 1) rfl) rfl rfl dX7_openPorts_1 ?_
  refine lv_aload_n hx hb dX7_openPorts_4 rfl (lv_at hl 3 rfl) ?_
  refine z_get Cx hw (T := TX2) (N := 3) (ci := 5) (fun _ h => List.mem_cons_of_mem _ (List.mem_append_left _ (List.mem_append_left _ (List.mem_append_left _ (List.mem_append_left _ (List.mem_append_left _ (List.mem_append_left _ (List.mem_append_left _ (List.mem_append_left _ (List.mem_append_right _ (h))))))))))) hh2 rfl 0 (by decide) (List.mem_of_getElem? (i := 1) rfl) rfl rfl dX7_openPorts_5 ?_
  refine lv_acmp_ne (rx := some sb1) (ry := some sb2) (tgt := 24) hx hb dX7_openPorts_8 (by decide) (fun c_8 => ?_) (fun c_8 => ?_)
  · skip
    have hs12 : ¬ s1 = s2 := fun h => c_8 (by rw [(z_nd hsd hi1 hi2).mpr h])
    refine lv_iload_n hx hb dX7_openPorts_24 rfl (lv_at hl 1 rfl) ?_
    refine lv_tableIn (off := 80) (tgt := 105) hx hb dX7_openPorts_25 (by decide) (by decide) rfl (by decide) ?_
    refine lv_aload_n hx hb dX7_openPorts_105 rfl (lv_at hl 3 rfl) ?_
    refine z_get Cx hw (T := TX2) (N := 3) (ci := 5) (fun _ h => List.mem_cons_of_mem _ (List.mem_append_left _ (List.mem_append_left _ (List.mem_append_left _ (List.mem_append_left _ (List.mem_append_left _ (List.mem_append_left _ (List.mem_append_left _ (List.mem_append_left _ (List.mem_append_right _ (h))))))))))) hh2 rfl 0 (by decide) (List.mem_of_getElem? (i := 1) rfl) rfl rfl dX7_openPorts_106 ?_
    refine lv_iconst (v := 1) hx hb dX7_openPorts_109 (by decide) ?_
    refine lv_aload_n hx hb dX7_openPorts_110 rfl (lv_at hl 2 rfl) ?_
    refine z_get Cx hw (T := TX2) (N := 3) (ci := 5) (fun _ h => List.mem_cons_of_mem _ (List.mem_append_left _ (List.mem_append_left _ (List.mem_append_left _ (List.mem_append_left _ (List.mem_append_left _ (List.mem_append_left _ (List.mem_append_left _ (List.mem_append_left _ (List.mem_append_right _ (h))))))))))) hh1 rfl 1 (by decide) (List.mem_of_getElem? (i := 3) rfl) rfl rfl dX7_openPorts_111 ?_
    refine z_goe hw.2 (z_runV Cx hw (c_X6_listPorts E l Z C sb2 nw2 bk2 rt2 1 a1 rl2 e2 v2.2.2.1 m4 m5 m6 m1) (cwV 2 Cx.1.2.2.2.2 gX7_openPorts_X6_listPorts rfl rfl rfl (by decide +kernel) ⟨Nat.le_of_ble_eq_true rfl, Nat.le_of_ble_eq_true rfl⟩) (z_recv Cx hw (r := (RX6, TX6, 4)) m1 rfl) rfl hl.1 rfl (Nat.le_of_ble_eq_true rfl) dX7_openPorts_114 ⟨Nat.le_of_ble_eq_true rfl, Nat.le_of_ble_eq_true rfl⟩) (fun H locs hw => ?_)
    exact (z_ie Cx hr rfl (Nat.le_of_ble_eq_true rfl) (Nat.le_of_ble_eq_true rfl) hw dX7_openPorts_117 (by simp [zopen, hs12]))
  · skip
    have hs12 : s1 = s2 := (z_nd hsd hi1 hi2).mp (Option.some.inj c_8)
    refine lv_iload_n hx hb dX7_openPorts_11 rfl (lv_at hl 1 rfl) ?_
    refine lv_iconst (v := 1) hx hb dX7_openPorts_12 (by decide) ?_
    refine lv_icmp_eq (tgt := 24) hx hb dX7_openPorts_13 (by decide) (fun c_13 => ?_) (fun c_13 => ?_)
    · skip
      exact absurd c_13 (by decide)
    · skip
      refine lv_iload_n hx hb dX7_openPorts_16 rfl (lv_at hl 1 rfl) ?_
      refine lv_iconst (v := 5) hx hb dX7_openPorts_17 (by decide) ?_
      refine lv_icmp_eq (tgt := 24) hx hb dX7_openPorts_18 (by decide) (fun c_18 => ?_) (fun c_18 => ?_)
      · skip
        exact absurd c_18 (by decide)
      · skip
        refine lv_ldc hx hb Cx.1.2.2.2.1 (Cx.1.2.2.2.2 (Cond.constant RX7 225 (65535)) (List.mem_of_getElem? (i := 2) rfl)) dX7_openPorts_21 ?_
        exact (z_ie Cx hr rfl (Nat.le_of_ble_eq_true rfl) (Nat.le_of_ble_eq_true rfl) hw dX7_openPorts_23 (by simp [zopen, hs12]))

set_option maxRecDepth 100000 in
set_option maxHeartbeats 4000000 in
/-- openPorts, part 5 -/
theorem c_open_5 (E : zG) (l : Launch) (Z : va_W) (C : zLs) (x : Nat) (ns ss : List Nat) (gvs : List (List zRl)) (pvs : List (Nat × Nat)) (hcf : zcf Z C x ns ss gvs pvs) (a b s1 s2 : Nat) (v1 v2 : zSv) (a1 g1 a2 g2 : Int32) (h1 : zhf Z C ns ss a s1 v1 a1 g1) (h2 : zhf Z C ns ss b s2 v2 a2 g2)  : Met l yX7_openPorts wsX7_openPorts (zR 5 0 0) (zPre E [.ref x, .int (nI 5), .ref a, .ref b] (zQ E Z C)) (zRi E (zQ E Z C) (zopen gvs pvs 5 s1 s2 v1 v2 a1 g1 a2 g2)) 0 0 (eA E) := by
  refine z_of (cc := cX7_openPorts) (maxL := 4) (ret := (some .int)) (by decide) rfl rfl (Nat.le_of_ble_eq_true rfl) ?_
  intro p e s m below meth c ls Cx hr hnm hw hl
  have hx := Cx.1.1
  have hb := Cx.1.2.1
  obtain ⟨q0, q1, q2, q3, q4, gs, ps, hx0, hq4, hgs, hgn, hq3, hps, hpn, hnd, hsd⟩ := hcf
  obtain ⟨sb1, hh1, hi1, hsf1⟩ := h1
  obtain ⟨sb2, hh2, hi2, hsf2⟩ := h2
  have hsf1' := hsf1
  have hsf2' := hsf2
  obtain ⟨nw1, bk1, rl1, rt1, e1, f1, k1, k2, k3, k4, k5, k6, k7, k8, k9⟩ := hsf1'
  obtain ⟨nw2, bk2, rl2, rt2, e2, f2, m1, m2, m3, m4, m5, m6, m7, m8, m9⟩ := hsf2'
  have hl : lv_has ls 4 [(0, .ref x), (1, .int (nI 5)), (2, .ref a), (3, .ref b)] := hl
  refine lv_aload_n hx hb dX7_openPorts_0 rfl (lv_at hl 2 rfl) ?_
  refine z_get Cx hw (T := TX2) (N := 3) (ci := 5) (fun _ h => List.mem_cons_of_mem _ (List.mem_append_left _ (List.mem_append_left _ (List.mem_append_left _ (List.mem_append_left _ (List.mem_append_left _ (List.mem_append_left _ (List.mem_append_left _ (List.mem_append_left _ (List.mem_append_right _ (h))))))))))) hh1 rfl 0 (by decide) (List.mem_of_getElem? (i := 1) rfl) rfl rfl dX7_openPorts_1 ?_
  refine lv_aload_n hx hb dX7_openPorts_4 rfl (lv_at hl 3 rfl) ?_
  refine z_get Cx hw (T := TX2) (N := 3) (ci := 5) (fun _ h => List.mem_cons_of_mem _ (List.mem_append_left _ (List.mem_append_left _ (List.mem_append_left _ (List.mem_append_left _ (List.mem_append_left _ (List.mem_append_left _ (List.mem_append_left _ (List.mem_append_left _ (List.mem_append_right _ (h))))))))))) hh2 rfl 0 (by decide) (List.mem_of_getElem? (i := 1) rfl) rfl rfl dX7_openPorts_5 ?_
  refine lv_acmp_ne (rx := some sb1) (ry := some sb2) (tgt := 24) hx hb dX7_openPorts_8 (by decide) (fun c_8 => ?_) (fun c_8 => ?_)
  · skip
    have hs12 : ¬ s1 = s2 := fun h => c_8 (by rw [(z_nd hsd hi1 hi2).mpr h])
    refine lv_iload_n hx hb dX7_openPorts_24 rfl (lv_at hl 1 rfl) ?_
    refine lv_tableIn (off := 93) (tgt := 118) hx hb dX7_openPorts_25 (by decide) (by decide) rfl (by decide) ?_
    refine lv_aload_n hx hb dX7_openPorts_118 rfl (lv_at hl 0 rfl) ?_
    refine lv_aload_n hx hb dX7_openPorts_119 rfl (lv_at hl 3 rfl) ?_
    refine lv_iconst (v := 1) hx hb dX7_openPorts_120 (by decide) ?_
    refine lv_aload_n hx hb dX7_openPorts_121 rfl (lv_at hl 2 rfl) ?_
    refine z_get Cx hw (T := TX2) (N := 3) (ci := 5) (fun _ h => List.mem_cons_of_mem _ (List.mem_append_left _ (List.mem_append_left _ (List.mem_append_left _ (List.mem_append_left _ (List.mem_append_left _ (List.mem_append_left _ (List.mem_append_left _ (List.mem_append_left _ (List.mem_append_right _ (h))))))))))) hh1 rfl 1 (by decide) (List.mem_of_getElem? (i := 3) rfl) rfl rfl dX7_openPorts_122 ?_
    refine z_goe hw.2 (z_runV Cx hw (c_X7_groupPorts E l Z C x q0 q1 q2 q3 q4 gs gvs hx0 hq4 hgs hgn b sb2 a2 g2 1 a1 hh2) (cwV 3 Cx.1.2.2.2.2 gX7_openPorts_X7_groupPorts rfl rfl rfl (by decide +kernel) ⟨Nat.le_of_ble_eq_true rfl, Nat.le_of_ble_eq_true rfl⟩) (z_recv Cx hw (r := (RX7, TX7, 5)) hx0 rfl) rfl hl.1 rfl (Nat.le_of_ble_eq_true rfl) dX7_openPorts_125 ⟨Nat.le_of_ble_eq_true rfl, Nat.le_of_ble_eq_true rfl⟩) (fun H locs hw => ?_)
    exact (z_ie Cx hr rfl (Nat.le_of_ble_eq_true rfl) (Nat.le_of_ble_eq_true rfl) hw dX7_openPorts_128 (by simp [zopen, hs12]))
  · skip
    have hs12 : s1 = s2 := (z_nd hsd hi1 hi2).mp (Option.some.inj c_8)
    refine lv_iload_n hx hb dX7_openPorts_11 rfl (lv_at hl 1 rfl) ?_
    refine lv_iconst (v := 1) hx hb dX7_openPorts_12 (by decide) ?_
    refine lv_icmp_eq (tgt := 24) hx hb dX7_openPorts_13 (by decide) (fun c_13 => ?_) (fun c_13 => ?_)
    · skip
      exact absurd c_13 (by decide)
    · skip
      refine lv_iload_n hx hb dX7_openPorts_16 rfl (lv_at hl 1 rfl) ?_
      refine lv_iconst (v := 5) hx hb dX7_openPorts_17 (by decide) ?_
      refine lv_icmp_eq (tgt := 24) hx hb dX7_openPorts_18 (by decide) (fun c_18 => ?_) (fun c_18 => ?_)
      · skip
        refine lv_iload_n hx hb dX7_openPorts_24 rfl (lv_at hl 1 rfl) ?_
        refine lv_tableIn (off := 93) (tgt := 118) hx hb dX7_openPorts_25 (by decide) (by decide) rfl (by decide) ?_
        refine lv_aload_n hx hb dX7_openPorts_118 rfl (lv_at hl 0 rfl) ?_
        refine lv_aload_n hx hb dX7_openPorts_119 rfl (lv_at hl 3 rfl) ?_
        refine lv_iconst (v := 1) hx hb dX7_openPorts_120 (by decide) ?_
        refine lv_aload_n hx hb dX7_openPorts_121 rfl (lv_at hl 2 rfl) ?_
        refine z_get Cx hw (T := TX2) (N := 3) (ci := 5) (fun _ h => List.mem_cons_of_mem _ (List.mem_append_left _ (List.mem_append_left _ (List.mem_append_left _ (List.mem_append_left _ (List.mem_append_left _ (List.mem_append_left _ (List.mem_append_left _ (List.mem_append_left _ (List.mem_append_right _ (h))))))))))) hh1 rfl 1 (by decide) (List.mem_of_getElem? (i := 3) rfl) rfl rfl dX7_openPorts_122 ?_
        refine z_goe hw.2 (z_runV Cx hw (c_X7_groupPorts E l Z C x q0 q1 q2 q3 q4 gs gvs hx0 hq4 hgs hgn b sb2 a2 g2 1 a1 hh2) (cwV 3 Cx.1.2.2.2.2 gX7_openPorts_X7_groupPorts rfl rfl rfl (by decide +kernel) ⟨Nat.le_of_ble_eq_true rfl, Nat.le_of_ble_eq_true rfl⟩) (z_recv Cx hw (r := (RX7, TX7, 5)) hx0 rfl) rfl hl.1 rfl (Nat.le_of_ble_eq_true rfl) dX7_openPorts_125 ⟨Nat.le_of_ble_eq_true rfl, Nat.le_of_ble_eq_true rfl⟩) (fun H locs hw => ?_)
        exact (z_ie Cx hr rfl (Nat.le_of_ble_eq_true rfl) (Nat.le_of_ble_eq_true rfl) hw dX7_openPorts_128 (by simp [zopen, hs12]))
      · skip
        exact absurd rfl c_18

set_option maxRecDepth 100000 in
set_option maxHeartbeats 4000000 in
/-- openPorts, part 6 -/
theorem c_open_6 (E : zG) (l : Launch) (Z : va_W) (C : zLs) (x : Nat) (ns ss : List Nat) (gvs : List (List zRl)) (pvs : List (Nat × Nat)) (hcf : zcf Z C x ns ss gvs pvs) (a b s1 s2 : Nat) (v1 v2 : zSv) (a1 g1 a2 g2 : Int32) (h1 : zhf Z C ns ss a s1 v1 a1 g1) (h2 : zhf Z C ns ss b s2 v2 a2 g2)  : Met l yX7_openPorts wsX7_openPorts (zR 5 0 0) (zPre E [.ref x, .int (nI 6), .ref a, .ref b] (zQ E Z C)) (zRi E (zQ E Z C) (zopen gvs pvs 6 s1 s2 v1 v2 a1 g1 a2 g2)) 0 0 (eA E) := by
  refine z_of (cc := cX7_openPorts) (maxL := 4) (ret := (some .int)) (by decide) rfl rfl (Nat.le_of_ble_eq_true rfl) ?_
  intro p e s m below meth c ls Cx hr hnm hw hl
  have hx := Cx.1.1
  have hb := Cx.1.2.1
  obtain ⟨q0, q1, q2, q3, q4, gs, ps, hx0, hq4, hgs, hgn, hq3, hps, hpn, hnd, hsd⟩ := hcf
  obtain ⟨sb1, hh1, hi1, hsf1⟩ := h1
  obtain ⟨sb2, hh2, hi2, hsf2⟩ := h2
  have hsf1' := hsf1
  have hsf2' := hsf2
  obtain ⟨nw1, bk1, rl1, rt1, e1, f1, k1, k2, k3, k4, k5, k6, k7, k8, k9⟩ := hsf1'
  obtain ⟨nw2, bk2, rl2, rt2, e2, f2, m1, m2, m3, m4, m5, m6, m7, m8, m9⟩ := hsf2'
  have hl : lv_has ls 4 [(0, .ref x), (1, .int (nI 6)), (2, .ref a), (3, .ref b)] := hl
  refine lv_aload_n hx hb dX7_openPorts_0 rfl (lv_at hl 2 rfl) ?_
  refine z_get Cx hw (T := TX2) (N := 3) (ci := 5) (fun _ h => List.mem_cons_of_mem _ (List.mem_append_left _ (List.mem_append_left _ (List.mem_append_left _ (List.mem_append_left _ (List.mem_append_left _ (List.mem_append_left _ (List.mem_append_left _ (List.mem_append_left _ (List.mem_append_right _ (h))))))))))) hh1 rfl 0 (by decide) (List.mem_of_getElem? (i := 1) rfl) rfl rfl dX7_openPorts_1 ?_
  refine lv_aload_n hx hb dX7_openPorts_4 rfl (lv_at hl 3 rfl) ?_
  refine z_get Cx hw (T := TX2) (N := 3) (ci := 5) (fun _ h => List.mem_cons_of_mem _ (List.mem_append_left _ (List.mem_append_left _ (List.mem_append_left _ (List.mem_append_left _ (List.mem_append_left _ (List.mem_append_left _ (List.mem_append_left _ (List.mem_append_left _ (List.mem_append_right _ (h))))))))))) hh2 rfl 0 (by decide) (List.mem_of_getElem? (i := 1) rfl) rfl rfl dX7_openPorts_5 ?_
  refine lv_acmp_ne (rx := some sb1) (ry := some sb2) (tgt := 24) hx hb dX7_openPorts_8 (by decide) (fun c_8 => ?_) (fun c_8 => ?_)
  · skip
    have hs12 : ¬ s1 = s2 := fun h => c_8 (by rw [(z_nd hsd hi1 hi2).mpr h])
    refine lv_iload_n hx hb dX7_openPorts_24 rfl (lv_at hl 1 rfl) ?_
    refine lv_tableIn (off := 104) (tgt := 129) hx hb dX7_openPorts_25 (by decide) (by decide) rfl (by decide) ?_
    refine lv_aload_n hx hb dX7_openPorts_129 rfl (lv_at hl 3 rfl) ?_
    refine z_get Cx hw (T := TX2) (N := 3) (ci := 5) (fun _ h => List.mem_cons_of_mem _ (List.mem_append_left _ (List.mem_append_left _ (List.mem_append_left _ (List.mem_append_left _ (List.mem_append_left _ (List.mem_append_left _ (List.mem_append_left _ (List.mem_append_left _ (List.mem_append_right _ (h))))))))))) hh2 rfl 0 (by decide) (List.mem_of_getElem? (i := 1) rfl) rfl rfl dX7_openPorts_130 ?_
    refine lv_iconst (v := 0) hx hb dX7_openPorts_133 (by decide) ?_
    refine lv_aload_n hx hb dX7_openPorts_134 rfl (lv_at hl 2 rfl) ?_
    refine z_get Cx hw (T := TX2) (N := 3) (ci := 5) (fun _ h => List.mem_cons_of_mem _ (List.mem_append_left _ (List.mem_append_left _ (List.mem_append_left _ (List.mem_append_left _ (List.mem_append_left _ (List.mem_append_left _ (List.mem_append_left _ (List.mem_append_left _ (List.mem_append_right _ (h))))))))))) hh1 rfl 1 (by decide) (List.mem_of_getElem? (i := 3) rfl) rfl rfl dX7_openPorts_135 ?_
    refine z_goe hw.2 (z_runV Cx hw (c_X6_listPorts E l Z C sb2 nw2 bk2 rt2 0 a1 rl2 e2 v2.2.2.1 m4 m5 m6 m1) (cwV 2 Cx.1.2.2.2.2 gX7_openPorts_X6_listPorts rfl rfl rfl (by decide +kernel) ⟨Nat.le_of_ble_eq_true rfl, Nat.le_of_ble_eq_true rfl⟩) (z_recv Cx hw (r := (RX6, TX6, 4)) m1 rfl) rfl hl.1 rfl (Nat.le_of_ble_eq_true rfl) dX7_openPorts_138 ⟨Nat.le_of_ble_eq_true rfl, Nat.le_of_ble_eq_true rfl⟩) (fun H locs hw => ?_)
    refine z_goe hw.2 (z_runS Cx hw (c_X7_hasReply E l (zQ E Z C) _) (va_cwS 1 Cx.1.2.2.2.2 gX7_openPorts_X7_hasReplyPort rfl rfl rfl (by decide +kernel) ⟨Nat.le_of_ble_eq_true rfl, Nat.le_of_ble_eq_true rfl⟩)  rfl hl.1 rfl (Nat.le_of_ble_eq_true rfl) dX7_openPorts_141 ⟨Nat.le_of_ble_eq_true rfl, Nat.le_of_ble_eq_true rfl⟩) (fun H locs hw => ?_)
    refine z_goe hw.2 (z_runS Cx hw (c_X7_allOrNone E l (zQ E Z C) _) (va_cwS 1 Cx.1.2.2.2.2 gX7_openPorts_X7_allOrNone rfl rfl rfl (by decide +kernel) ⟨Nat.le_of_ble_eq_true rfl, Nat.le_of_ble_eq_true rfl⟩)  rfl hl.1 rfl (Nat.le_of_ble_eq_true rfl) dX7_openPorts_144 ⟨Nat.le_of_ble_eq_true rfl, Nat.le_of_ble_eq_true rfl⟩) (fun H locs hw => ?_)
    exact (z_ie Cx hr rfl (Nat.le_of_ble_eq_true rfl) (Nat.le_of_ble_eq_true rfl) hw dX7_openPorts_147 (by simp [zopen, hs12]))
  · skip
    have hs12 : s1 = s2 := (z_nd hsd hi1 hi2).mp (Option.some.inj c_8)
    refine lv_iload_n hx hb dX7_openPorts_11 rfl (lv_at hl 1 rfl) ?_
    refine lv_iconst (v := 1) hx hb dX7_openPorts_12 (by decide) ?_
    refine lv_icmp_eq (tgt := 24) hx hb dX7_openPorts_13 (by decide) (fun c_13 => ?_) (fun c_13 => ?_)
    · skip
      exact absurd c_13 (by decide)
    · skip
      refine lv_iload_n hx hb dX7_openPorts_16 rfl (lv_at hl 1 rfl) ?_
      refine lv_iconst (v := 5) hx hb dX7_openPorts_17 (by decide) ?_
      refine lv_icmp_eq (tgt := 24) hx hb dX7_openPorts_18 (by decide) (fun c_18 => ?_) (fun c_18 => ?_)
      · skip
        exact absurd c_18 (by decide)
      · skip
        refine lv_ldc hx hb Cx.1.2.2.2.1 (Cx.1.2.2.2.2 (Cond.constant RX7 225 (65535)) (List.mem_of_getElem? (i := 2) rfl)) dX7_openPorts_21 ?_
        exact (z_ie Cx hr rfl (Nat.le_of_ble_eq_true rfl) (Nat.le_of_ble_eq_true rfl) hw dX7_openPorts_23 (by simp [zopen, hs12]))

set_option maxRecDepth 100000 in
set_option maxHeartbeats 4000000 in
/-- openPorts, part 7 -/
theorem c_open_7 (E : zG) (l : Launch) (Z : va_W) (C : zLs) (x : Nat) (ns ss : List Nat) (gvs : List (List zRl)) (pvs : List (Nat × Nat)) (hcf : zcf Z C x ns ss gvs pvs) (a b s1 s2 : Nat) (v1 v2 : zSv) (a1 g1 a2 g2 : Int32) (h1 : zhf Z C ns ss a s1 v1 a1 g1) (h2 : zhf Z C ns ss b s2 v2 a2 g2)  : Met l yX7_openPorts wsX7_openPorts (zR 5 0 0) (zPre E [.ref x, .int (nI 7), .ref a, .ref b] (zQ E Z C)) (zRi E (zQ E Z C) (zopen gvs pvs 7 s1 s2 v1 v2 a1 g1 a2 g2)) 0 0 (eA E) := by
  refine z_of (cc := cX7_openPorts) (maxL := 4) (ret := (some .int)) (by decide) rfl rfl (Nat.le_of_ble_eq_true rfl) ?_
  intro p e s m below meth c ls Cx hr hnm hw hl
  have hx := Cx.1.1
  have hb := Cx.1.2.1
  obtain ⟨q0, q1, q2, q3, q4, gs, ps, hx0, hq4, hgs, hgn, hq3, hps, hpn, hnd, hsd⟩ := hcf
  obtain ⟨sb1, hh1, hi1, hsf1⟩ := h1
  obtain ⟨sb2, hh2, hi2, hsf2⟩ := h2
  have hsf1' := hsf1
  have hsf2' := hsf2
  obtain ⟨nw1, bk1, rl1, rt1, e1, f1, k1, k2, k3, k4, k5, k6, k7, k8, k9⟩ := hsf1'
  obtain ⟨nw2, bk2, rl2, rt2, e2, f2, m1, m2, m3, m4, m5, m6, m7, m8, m9⟩ := hsf2'
  have hl : lv_has ls 4 [(0, .ref x), (1, .int (nI 7)), (2, .ref a), (3, .ref b)] := hl
  refine lv_aload_n hx hb dX7_openPorts_0 rfl (lv_at hl 2 rfl) ?_
  refine z_get Cx hw (T := TX2) (N := 3) (ci := 5) (fun _ h => List.mem_cons_of_mem _ (List.mem_append_left _ (List.mem_append_left _ (List.mem_append_left _ (List.mem_append_left _ (List.mem_append_left _ (List.mem_append_left _ (List.mem_append_left _ (List.mem_append_left _ (List.mem_append_right _ (h))))))))))) hh1 rfl 0 (by decide) (List.mem_of_getElem? (i := 1) rfl) rfl rfl dX7_openPorts_1 ?_
  refine lv_aload_n hx hb dX7_openPorts_4 rfl (lv_at hl 3 rfl) ?_
  refine z_get Cx hw (T := TX2) (N := 3) (ci := 5) (fun _ h => List.mem_cons_of_mem _ (List.mem_append_left _ (List.mem_append_left _ (List.mem_append_left _ (List.mem_append_left _ (List.mem_append_left _ (List.mem_append_left _ (List.mem_append_left _ (List.mem_append_left _ (List.mem_append_right _ (h))))))))))) hh2 rfl 0 (by decide) (List.mem_of_getElem? (i := 1) rfl) rfl rfl dX7_openPorts_5 ?_
  refine lv_acmp_ne (rx := some sb1) (ry := some sb2) (tgt := 24) hx hb dX7_openPorts_8 (by decide) (fun c_8 => ?_) (fun c_8 => ?_)
  · skip
    have hs12 : ¬ s1 = s2 := fun h => c_8 (by rw [(z_nd hsd hi1 hi2).mpr h])
    refine lv_iload_n hx hb dX7_openPorts_24 rfl (lv_at hl 1 rfl) ?_
    refine lv_tableIn (off := 123) (tgt := 148) hx hb dX7_openPorts_25 (by decide) (by decide) rfl (by decide) ?_
    refine lv_aload_n hx hb dX7_openPorts_148 rfl (lv_at hl 0 rfl) ?_
    refine lv_aload_n hx hb dX7_openPorts_149 rfl (lv_at hl 3 rfl) ?_
    refine z_get Cx hw (T := TX2) (N := 3) (ci := 5) (fun _ h => List.mem_cons_of_mem _ (List.mem_append_left _ (List.mem_append_left _ (List.mem_append_left _ (List.mem_append_left _ (List.mem_append_left _ (List.mem_append_left _ (List.mem_append_left _ (List.mem_append_left _ (List.mem_append_right _ (h))))))))))) hh2 rfl 0 (by decide) (List.mem_of_getElem? (i := 1) rfl) rfl rfl dX7_openPorts_150 ?_
    refine lv_aload_n hx hb dX7_openPorts_153 rfl (lv_at hl 2 rfl) ?_
    refine z_goe hw.2 (z_runV Cx hw (c_X7_isRouted E l Z C x q0 q1 q2 q3 q4 ns ps pvs hx0 hq3 hps hpn hnd sb2 v2 hsf2 a sb1 v1 a1 g1 hh1 hsf1) (cwV 2 Cx.1.2.2.2.2 gX7_openPorts_X7_isRouted rfl rfl rfl (by decide +kernel) ⟨Nat.le_of_ble_eq_true rfl, Nat.le_of_ble_eq_true rfl⟩) (z_recv Cx hw (r := (RX7, TX7, 5)) hx0 rfl) rfl hl.1 rfl (Nat.le_of_ble_eq_true rfl) dX7_openPorts_154 ⟨Nat.le_of_ble_eq_true rfl, Nat.le_of_ble_eq_true rfl⟩) (fun H locs hw => ?_)
    refine z_goe hw.2 (z_runS Cx hw (c_X7_allOrNone E l (zQ E Z C) _) (va_cwS 1 Cx.1.2.2.2.2 gX7_openPorts_X7_allOrNone rfl rfl rfl (by decide +kernel) ⟨Nat.le_of_ble_eq_true rfl, Nat.le_of_ble_eq_true rfl⟩)  rfl hl.1 rfl (Nat.le_of_ble_eq_true rfl) dX7_openPorts_157 ⟨Nat.le_of_ble_eq_true rfl, Nat.le_of_ble_eq_true rfl⟩) (fun H locs hw => ?_)
    exact (z_ie Cx hr rfl (Nat.le_of_ble_eq_true rfl) (Nat.le_of_ble_eq_true rfl) hw dX7_openPorts_160 (by simp [zopen, hs12]))
  · skip
    have hs12 : s1 = s2 := (z_nd hsd hi1 hi2).mp (Option.some.inj c_8)
    refine lv_iload_n hx hb dX7_openPorts_11 rfl (lv_at hl 1 rfl) ?_
    refine lv_iconst (v := 1) hx hb dX7_openPorts_12 (by decide) ?_
    refine lv_icmp_eq (tgt := 24) hx hb dX7_openPorts_13 (by decide) (fun c_13 => ?_) (fun c_13 => ?_)
    · skip
      exact absurd c_13 (by decide)
    · skip
      refine lv_iload_n hx hb dX7_openPorts_16 rfl (lv_at hl 1 rfl) ?_
      refine lv_iconst (v := 5) hx hb dX7_openPorts_17 (by decide) ?_
      refine lv_icmp_eq (tgt := 24) hx hb dX7_openPorts_18 (by decide) (fun c_18 => ?_) (fun c_18 => ?_)
      · skip
        exact absurd c_18 (by decide)
      · skip
        refine lv_ldc hx hb Cx.1.2.2.2.1 (Cx.1.2.2.2.2 (Cond.constant RX7 225 (65535)) (List.mem_of_getElem? (i := 2) rfl)) dX7_openPorts_21 ?_
        exact (z_ie Cx hr rfl (Nat.le_of_ble_eq_true rfl) (Nat.le_of_ble_eq_true rfl) hw dX7_openPorts_23 (by simp [zopen, hs12]))

set_option maxRecDepth 100000 in
set_option maxHeartbeats 4000000 in
/-- openPorts, part 8 -/
theorem c_open_8 (E : zG) (l : Launch) (Z : va_W) (C : zLs) (x : Nat) (ns ss : List Nat) (gvs : List (List zRl)) (pvs : List (Nat × Nat)) (hcf : zcf Z C x ns ss gvs pvs) (a b s1 s2 : Nat) (v1 v2 : zSv) (a1 g1 a2 g2 : Int32) (h1 : zhf Z C ns ss a s1 v1 a1 g1) (h2 : zhf Z C ns ss b s2 v2 a2 g2)  : Met l yX7_openPorts wsX7_openPorts (zR 5 0 0) (zPre E [.ref x, .int (nI 8), .ref a, .ref b] (zQ E Z C)) (zRi E (zQ E Z C) (zopen gvs pvs 8 s1 s2 v1 v2 a1 g1 a2 g2)) 0 0 (eA E) := by
  refine z_of (cc := cX7_openPorts) (maxL := 4) (ret := (some .int)) (by decide) rfl rfl (Nat.le_of_ble_eq_true rfl) ?_
  intro p e s m below meth c ls Cx hr hnm hw hl
  have hx := Cx.1.1
  have hb := Cx.1.2.1
  obtain ⟨q0, q1, q2, q3, q4, gs, ps, hx0, hq4, hgs, hgn, hq3, hps, hpn, hnd, hsd⟩ := hcf
  obtain ⟨sb1, hh1, hi1, hsf1⟩ := h1
  obtain ⟨sb2, hh2, hi2, hsf2⟩ := h2
  have hsf1' := hsf1
  have hsf2' := hsf2
  obtain ⟨nw1, bk1, rl1, rt1, e1, f1, k1, k2, k3, k4, k5, k6, k7, k8, k9⟩ := hsf1'
  obtain ⟨nw2, bk2, rl2, rt2, e2, f2, m1, m2, m3, m4, m5, m6, m7, m8, m9⟩ := hsf2'
  have hl : lv_has ls 4 [(0, .ref x), (1, .int (nI 8)), (2, .ref a), (3, .ref b)] := hl
  refine lv_aload_n hx hb dX7_openPorts_0 rfl (lv_at hl 2 rfl) ?_
  refine z_get Cx hw (T := TX2) (N := 3) (ci := 5) (fun _ h => List.mem_cons_of_mem _ (List.mem_append_left _ (List.mem_append_left _ (List.mem_append_left _ (List.mem_append_left _ (List.mem_append_left _ (List.mem_append_left _ (List.mem_append_left _ (List.mem_append_left _ (List.mem_append_right _ (h))))))))))) hh1 rfl 0 (by decide) (List.mem_of_getElem? (i := 1) rfl) rfl rfl dX7_openPorts_1 ?_
  refine lv_aload_n hx hb dX7_openPorts_4 rfl (lv_at hl 3 rfl) ?_
  refine z_get Cx hw (T := TX2) (N := 3) (ci := 5) (fun _ h => List.mem_cons_of_mem _ (List.mem_append_left _ (List.mem_append_left _ (List.mem_append_left _ (List.mem_append_left _ (List.mem_append_left _ (List.mem_append_left _ (List.mem_append_left _ (List.mem_append_left _ (List.mem_append_right _ (h))))))))))) hh2 rfl 0 (by decide) (List.mem_of_getElem? (i := 1) rfl) rfl rfl dX7_openPorts_5 ?_
  refine lv_acmp_ne (rx := some sb1) (ry := some sb2) (tgt := 24) hx hb dX7_openPorts_8 (by decide) (fun c_8 => ?_) (fun c_8 => ?_)
  · skip
    have hs12 : ¬ s1 = s2 := fun h => c_8 (by rw [(z_nd hsd hi1 hi2).mpr h])
    refine lv_iload_n hx hb dX7_openPorts_24 rfl (lv_at hl 1 rfl) ?_
    refine lv_tableOut (tgt := 161) hx hb dX7_openPorts_25 (by decide) (by decide) ?_
    refine lv_aload_n hx hb dX7_openPorts_161 rfl (lv_at hl 2 rfl) ?_
    refine z_get Cx hw (T := TX2) (N := 3) (ci := 5) (fun _ h => List.mem_cons_of_mem _ (List.mem_append_left _ (List.mem_append_left _ (List.mem_append_left _ (List.mem_append_left _ (List.mem_append_left _ (List.mem_append_left _ (List.mem_append_left _ (List.mem_append_left _ (List.mem_append_right _ (h))))))))))) hh1 rfl 0 (by decide) (List.mem_of_getElem? (i := 1) rfl) rfl rfl dX7_openPorts_162 ?_
    refine lv_iconst (v := 1) hx hb dX7_openPorts_165 (by decide) ?_
    refine lv_aload_n hx hb dX7_openPorts_166 rfl (lv_at hl 3 rfl) ?_
    refine z_get Cx hw (T := TX2) (N := 3) (ci := 5) (fun _ h => List.mem_cons_of_mem _ (List.mem_append_left _ (List.mem_append_left _ (List.mem_append_left _ (List.mem_append_left _ (List.mem_append_left _ (List.mem_append_left _ (List.mem_append_left _ (List.mem_append_left _ (List.mem_append_right _ (h))))))))))) hh2 rfl 1 (by decide) (List.mem_of_getElem? (i := 3) rfl) rfl rfl dX7_openPorts_167 ?_
    refine z_goe hw.2 (z_runV Cx hw (c_X6_listPorts E l Z C sb1 nw1 bk1 rt1 1 a2 rl1 e1 v1.2.2.1 k4 k5 k6 k1) (cwV 2 Cx.1.2.2.2.2 gX7_openPorts_X6_listPorts rfl rfl rfl (by decide +kernel) ⟨Nat.le_of_ble_eq_true rfl, Nat.le_of_ble_eq_true rfl⟩) (z_recv Cx hw (r := (RX6, TX6, 4)) k1 rfl) rfl hl.1 rfl (Nat.le_of_ble_eq_true rfl) dX7_openPorts_170 ⟨Nat.le_of_ble_eq_true rfl, Nat.le_of_ble_eq_true rfl⟩) (fun H locs hw => ?_)
    refine z_goe hw.2 (z_runS Cx hw (c_X7_hasReply E l (zQ E Z C) _) (va_cwS 1 Cx.1.2.2.2.2 gX7_openPorts_X7_hasReplyPort rfl rfl rfl (by decide +kernel) ⟨Nat.le_of_ble_eq_true rfl, Nat.le_of_ble_eq_true rfl⟩)  rfl hl.1 rfl (Nat.le_of_ble_eq_true rfl) dX7_openPorts_173 ⟨Nat.le_of_ble_eq_true rfl, Nat.le_of_ble_eq_true rfl⟩) (fun H locs hw => ?_)
    refine z_goe hw.2 (z_runS Cx hw (c_X7_allOrNone E l (zQ E Z C) _) (va_cwS 1 Cx.1.2.2.2.2 gX7_openPorts_X7_allOrNone rfl rfl rfl (by decide +kernel) ⟨Nat.le_of_ble_eq_true rfl, Nat.le_of_ble_eq_true rfl⟩)  rfl hl.1 rfl (Nat.le_of_ble_eq_true rfl) dX7_openPorts_176 ⟨Nat.le_of_ble_eq_true rfl, Nat.le_of_ble_eq_true rfl⟩) (fun H locs hw => ?_)
    exact (z_ie Cx hr rfl (Nat.le_of_ble_eq_true rfl) (Nat.le_of_ble_eq_true rfl) hw dX7_openPorts_179 (by simp [zopen, hs12]))
  · skip
    have hs12 : s1 = s2 := (z_nd hsd hi1 hi2).mp (Option.some.inj c_8)
    refine lv_iload_n hx hb dX7_openPorts_11 rfl (lv_at hl 1 rfl) ?_
    refine lv_iconst (v := 1) hx hb dX7_openPorts_12 (by decide) ?_
    refine lv_icmp_eq (tgt := 24) hx hb dX7_openPorts_13 (by decide) (fun c_13 => ?_) (fun c_13 => ?_)
    · skip
      exact absurd c_13 (by decide)
    · skip
      refine lv_iload_n hx hb dX7_openPorts_16 rfl (lv_at hl 1 rfl) ?_
      refine lv_iconst (v := 5) hx hb dX7_openPorts_17 (by decide) ?_
      refine lv_icmp_eq (tgt := 24) hx hb dX7_openPorts_18 (by decide) (fun c_18 => ?_) (fun c_18 => ?_)
      · skip
        exact absurd c_18 (by decide)
      · skip
        refine lv_ldc hx hb Cx.1.2.2.2.1 (Cx.1.2.2.2.2 (Cond.constant RX7 225 (65535)) (List.mem_of_getElem? (i := 2) rfl)) dX7_openPorts_21 ?_
        exact (z_ie Cx hr rfl (Nat.le_of_ble_eq_true rfl) (Nat.le_of_ble_eq_true rfl) hw dX7_openPorts_23 (by simp [zopen, hs12]))

theorem c_X7_openPorts (E : zG) (l : Launch) (Z : va_W) (C : zLs) (x : Nat) (ns ss : List Nat) (gvs : List (List zRl)) (pvs : List (Nat × Nat)) (hcf : zcf Z C x ns ss gvs pvs) (a b s1 s2 : Nat) (v1 v2 : zSv) (a1 g1 a2 g2 : Int32) (h1 : zhf Z C ns ss a s1 v1 a1 g1) (h2 : zhf Z C ns ss b s2 v2 a2 g2) (p : Nat) (hp1 : 1 ≤ p) (hp8 : p ≤ 8) : Met l yX7_openPorts wsX7_openPorts (zR 5 0 0) (zPre E [.ref x, .int (nI p), .ref a, .ref b] (zQ E Z C)) (zRi E (zQ E Z C) (zopen gvs pvs p s1 s2 v1 v2 a1 g1 a2 g2)) 0 0 (eA E) := by
  rcases (show p = 1 ∨ p = 2 ∨ p = 3 ∨ p = 4 ∨ p = 5 ∨ p = 6 ∨ p = 7 ∨ p = 8 by omega) with rfl | rfl | rfl | rfl | rfl | rfl | rfl | rfl
  · exact c_open_1 E l Z C x ns ss gvs pvs hcf a b s1 s2 v1 v2 a1 g1 a2 g2 h1 h2
  · exact c_open_2 E l Z C x ns ss gvs pvs hcf a b s1 s2 v1 v2 a1 g1 a2 g2 h1 h2
  · exact c_open_3 E l Z C x ns ss gvs pvs hcf a b s1 s2 v1 v2 a1 g1 a2 g2 h1 h2
  · exact c_open_4 E l Z C x ns ss gvs pvs hcf a b s1 s2 v1 v2 a1 g1 a2 g2 h1 h2
  · exact c_open_5 E l Z C x ns ss gvs pvs hcf a b s1 s2 v1 v2 a1 g1 a2 g2 h1 h2
  · exact c_open_6 E l Z C x ns ss gvs pvs hcf a b s1 s2 v1 v2 a1 g1 a2 g2 h1 h2
  · exact c_open_7 E l Z C x ns ss gvs pvs hcf a b s1 s2 v1 v2 a1 g1 a2 g2 h1 h2
  · exact c_open_8 E l Z C x ns ss gvs pvs hcf a b s1 s2 v1 v2 a1 g1 a2 g2 h1 h2
set_option maxRecDepth 100000 in
set_option maxHeartbeats 4000000 in
/-- workingPorts -/
theorem c_X7_work (E : zG) (l : Launch) (Z : va_W) (C : zLs) (x : Nat) (ns ss : List Nat) (gvs : List (List zRl)) (pvs : List (Nat × Nat)) (hcf : zcf Z C x ns ss gvs pvs) (a b s1 s2 : Nat) (v1 v2 : zSv) (a1 g1 a2 g2 : Int32) (h1 : zhf Z C ns ss a s1 v1 a1 g1) (h2 : zhf Z C ns ss b s2 v2 a2 g2)  : Met l yX7_workingPorts wsX7_workingPorts (zR 6 0 0) (zPre E [.ref x, .ref a, .ref b] (zQ E Z C)) (zRi E (zQ E Z C) (zwork gvs pvs s1 s2 v1 v2 a1 g1 a2 g2 8)) 0 0 (eA E) := by
  refine z_of (cc := cX7_workingPorts) (maxL := 5) (ret := (some .int)) (by decide) rfl rfl (Nat.le_of_ble_eq_true rfl) ?_
  intro p e s m below meth c ls Cx hr hnm hw hl
  have hx := Cx.1.1
  have hb := Cx.1.2.1
  have hcf2 := hcf
  obtain ⟨q0, q1, q2, q3, q4, gs, ps, hx0, -⟩ := hcf2
  have hl : lv_has ls 5 [(0, .ref x), (1, .ref a), (2, .ref b)] := hl
  refine lv_ldc hx hb Cx.1.2.2.2.1 (Cx.1.2.2.2.2 (Cond.constant RX7 225 (65535)) (List.mem_of_getElem? (i := 1) rfl)) dX7_workingPorts_0 ?_
  refine lv_istore_n hx hb dX7_workingPorts_2 rfl hl (by decide) rfl (fun ls hl => ?_)
  have hl : lv_has ls 5 [(3, _), (0, .ref x), (1, .ref a), (2, .ref b)] := hl
  refine lv_iconst (v := nI 1) hx hb dX7_workingPorts_3 rfl ?_
  refine lv_istore hx hb dX7_workingPorts_4 hl (by decide) rfl (fun ls hl => ?_)
  have hl : lv_has ls 5 [(4, .int (nI 1)), (3, _), (0, .ref x), (1, .ref a), (2, .ref b)] := hl
  have loop_6 : ∀ (nn : Nat) (i : Nat) (o : Int32) (H : Heap) (locs : List Loc) (ls : Array Slot), (1 ≤ i ∧ i ≤ 9) → (o = zwork gvs pvs s1 s2 v1 v2 a1 g1 a2 g2 (i - 1)) → 9 - i < nn → zHw E (zQ E Z C) s H locs → lv_has ls 5 [(0, .ref x), (1, .ref a), (2, .ref b), (3, .int o), (4, .int (nI i))] → W p l e (zR 6 0 0) s m ([.ref x, .ref a, .ref b] : List Value).toArray below meth c H locs 0 0 (MQ below (zRi E (zQ E Z C) (zwork gvs pvs s1 s2 v1 v2 a1 g1 a2 g2 8)) ([.ref x, .ref a, .ref b] : List Value).toArray s 0 0 (eA E)) (F0 m 6 ls []) := by
    intro nn
    induction nn with
    | zero => intro i o H locs ls hi hacc hm; exact absurd hm (Nat.not_lt_zero _)
    | succ nn ih =>
      intro i o H locs ls hi hacc hm hw hl
      refine lv_iload hx hb dX7_workingPorts_6 (lv_at hl 4 rfl) ?_
      refine lv_bipush (v := nI 8) hx hb dX7_workingPorts_8 rfl ?_
      refine lv_icmp_gt (tgt := 30) hx hb dX7_workingPorts_10 (by decide) (fun c_10 => ?_) (fun c_10 => ?_)
      · skip
        have c_11 : i = 9 := by
          have h1 : 8 < i := by
            rcases Nat.lt_or_ge 8 i with h | h
            · exact h
            · exact absurd c_10 (nI_nlt h (by omega))
          omega
        subst c_11
        refine lv_iload_n hx hb dX7_workingPorts_30 rfl (lv_at hl 3 rfl) ?_
        exact (z_ie Cx hr rfl (Nat.le_of_ble_eq_true rfl) (Nat.le_of_ble_eq_true rfl) hw dX7_workingPorts_31 hacc)
      · skip
        have c_11 : i ≤ 8 := by
          rcases Nat.lt_or_ge 8 i with h | h
          · exact absurd (nI_lt h (by omega)) c_10
          · exact h
        refine lv_iload_n hx hb dX7_workingPorts_13 rfl (lv_at hl 3 rfl) ?_
        refine lv_aload_n hx hb dX7_workingPorts_14 rfl (lv_at hl 0 rfl) ?_
        refine lv_iload hx hb dX7_workingPorts_15 (lv_at hl 4 rfl) ?_
        refine lv_aload_n hx hb dX7_workingPorts_17 rfl (lv_at hl 1 rfl) ?_
        refine lv_aload_n hx hb dX7_workingPorts_18 rfl (lv_at hl 2 rfl) ?_
        refine z_goe hw.2 (z_runV Cx hw (c_X7_openPorts E l Z C x ns ss gvs pvs hcf a b s1 s2 v1 v2 a1 g1 a2 g2 h1 h2 i hi.1 c_11) (cwV 3 Cx.1.2.2.2.2 gX7_workingPorts_X7_openPorts rfl rfl rfl (by decide +kernel) ⟨Nat.le_of_ble_eq_true rfl, Nat.le_of_ble_eq_true rfl⟩) (z_recv Cx hw (r := (RX7, TX7, 5)) hx0 rfl) rfl hl.1 rfl (Nat.le_of_ble_eq_true rfl) dX7_workingPorts_19 ⟨Nat.le_of_ble_eq_true rfl, Nat.le_of_ble_eq_true rfl⟩) (fun H locs hw => ?_)
        refine lv_iand hx hb dX7_workingPorts_22 ?_
        refine lv_topi (fun x_22 ex_22 => ?_)
        have hacc2 : x_22 = zwork gvs pvs s1 s2 v1 v2 a1 g1 a2 g2 (i + 1 - 1) := by
          rw [ex_22, hacc]
          obtain ⟨j, rfl⟩ : ∃ j, i = j + 1 := ⟨i - 1, by omega⟩
          rfl
        refine lv_istore_n hx hb dX7_workingPorts_23 rfl hl (by decide) rfl (fun ls hl => ?_)
        have hl : lv_has ls 5 [(3, _), (0, .ref x), (1, .ref a), (2, .ref b), (4, .int (nI i))] := hl
        refine lv_iinc (v := nI (i + 1)) hx hb dX7_workingPorts_24 hl (k := 4) rfl (nI_1 i) (by decide) rfl (fun ls hl => ?_)
        have hl : lv_has ls 5 [(4, .int (nI (i + 1))), (3, _), (0, .ref x), (1, .ref a), (2, .ref b)] := hl
        refine lv_goto (tgt := 6) hx hb dX7_workingPorts_27 (by decide) ?_
        exact ih (i + 1) _ H _ ls (by omega) hacc2 (by omega) hw (lv_sub hl [2, 3, 4, 1, 0] rfl)
  exact loop_6 ((9 - 1) + 1) 1 _ _ _ ls (by omega) rfl (Nat.lt_succ_self _) hw (lv_sub hl [2, 3, 4, 1, 0] rfl)


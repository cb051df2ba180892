theorem zsv_eq {V : zCl} {k : Nat} {v : zSb} {w : zBk} (hv : (vS V)[k]? = some v) (hw : (vN V)[v.1]? = some w) : zsv V k = (v.1, w, v.2.2.1, v.2.2.2) := by
  have e1 : (vS V).getD k (0, (0, 0), [], []) = v := by rw [List.getD_eq_getElem?_getD, hv]; rfl
  have e2 : (vN V).getD v.1 (0, 0) = w := by rw [List.getD_eq_getElem?_getD, hw]; rfl
  unfold zsv
  rw [e1, e2]
def zrouteV (V : zCl) (k : Nat) (a : Int32) : Int32 := zrnum (zsv V k).2.1.1 (zsv V k).2.1.2 (zsv V k).2.2.2 a
set_option maxRecDepth 100000 in
set_option maxHeartbeats 4000000 in
/-- routeFor -/
theorem c_X7_routeFor (E : zG) (l : Launch) (hl0 : l.stackTraces = false) (Z : va_W) (C : zLs) (x : Nat) (V : zCl) (hrc : zRC Z C x V) (f a : Int32) : vx_Met l yX7_routeFor wsX7_routeFor (zR 8 20 200) (zPre E [.ref x, .int f, .int a] (zQ E Z C)) (va_Qi (fun r (u : Nat) => (f = nI u ∧ u < (vS V).length ∧ ¬ a < 0 ∧ a < 1024) ∧ r = zrouteV V u a) (fun _ tt => zQ E Z C tt.heap) (eA E)) (zX E (zQ E Z C) (fun nm => (nm = zIOO ∧ ¬ zix f (vS V).length) ∨ (nm = zIAE ∧ zix f (vS V).length ∧ ¬ (¬ a < 0 ∧ a < 1024)))) 20 200 (eA E) := by
  refine zx_of (cc := cX7_routeFor) (maxL := 4) (ret := (some .int)) (by decide) rfl rfl (Nat.le_of_ble_eq_true rfl) ?_
  intro p e s m below meth c ls ht Cx hr hnm hw hl
  have hx := Cx.1.1
  have hb := Cx.1.2.1
  obtain ⟨q0, q1, q2, q3, q4, ns, ss, hs, ps, gs, ro, rw, hR⟩ := hrc
  have hR2 := hR
  obtain ⟨hx0, ⟨c0, c1, c2, c3, c4⟩, ⟨z0, z1, z2, z3, z4⟩, -, -, l0, l1, l2, l3, l4⟩ := hR2
  have hlen : hs.length = (vH V).length := z2.1
  have slen : ss.length = (vS V).length := z1.1
  have hl : lv_has ls 4 [(0, .ref x), (1, .int f), (2, .int a)] := hl
  refine lv_aload_n hx hb dX7_routeFor_0 rfl (lv_at hl 0 rfl) ?_
  refine lv_iload_n hx hb dX7_routeFor_1 rfl (lv_at hl 1 rfl) ?_
  refine zx_gor (pr := fun (u : Nat × Nat) a => a = u.2) (wf := fun _ => zQ E Z C) hw.2 (zx_runV Cx hw (c_X7_subnetAt E l hl0 Z C x q0 q1 q2 q3 q4 ss hx0 c1 (by omega) hR.sel f) (cwV 1 Cx.1.2.2.2.2 gX7_routeFor_X7_subnetAt rfl rfl rfl (by decide +kernel) ⟨Nat.le_of_ble_eq_true rfl, Nat.le_of_ble_eq_true rfl⟩) (z_recv Cx hw (r := (RX7, TX7, 5)) hx0 rfl) rfl hl.1 rfl (Nat.le_of_ble_eq_true rfl) dX7_routeFor_2 ⟨Nat.le_of_ble_eq_true rfl, Nat.le_of_ble_eq_true rfl⟩) (z_out Cx ht (Nat.le_of_ble_eq_true rfl) (Nat.le_of_ble_eq_true rfl) (fun nm h => by rw [slen] at h; exact Or.inl h) (fun _ h => h)) (fun u_2 ra_2 H locs hp_2 hr_2 hw => ?_)
  obtain ⟨k, y⟩ := u_2
  obtain ⟨hk, hy⟩ := hp_2
  dsimp only at hk hy
  rw [show ra_2 = y from hr_2]
  have hkb : k < ss.length := (List.getElem?_eq_some_iff.mp hy).1
  have hz : zix f (vS V).length := ⟨k, by rw [← slen]; exact hkb, hk⟩
  obtain ⟨v, hv, nw, bk, rl, rt, es, fs, k1, k2, k3, ⟨k4, k5, k6, k7⟩, ⟨k8, k9, k10, k11⟩, -⟩ := z1.get hy
  obtain ⟨w, hw0, kw⟩ := z0.get k2
  have hsv := zsv_eq hv hw0
  refine lv_astore_n hx hb dX7_routeFor_5 rfl hl (by decide) rfl (fun ls hl => ?_)
  have hl : lv_has ls 4 [(3, .ref y), (0, .ref x), (1, .int f), (2, .int a)] := hl
  refine lv_iload_n hx hb dX7_routeFor_6 rfl (lv_at hl 3 rfl) ?_
  refine lv_if_lt (tgt := 17) hx hb dX7_routeFor_7 (by decide) (fun c_7 => ?_) (fun c_7 => ?_)
  · skip
    exact z_throw (is := 187) Cx hl0 ht hw (List.mem_of_getElem? (i := 15) rfl) (by decide) (List.mem_of_getElem? (i := 1) rfl) (List.mem_of_getElem? (i := 2) rfl) (fun _ h => List.mem_cons_of_mem _ (List.mem_append_left _ (List.mem_append_right _ (h)))) (by decide +kernel) (by decide +kernel) (by decide +kernel) hl.1 dX7_routeFor_17 dX7_routeFor_20 dX7_routeFor_21 dX7_routeFor_23 dX7_routeFor_26 (Nat.le_of_ble_eq_true rfl) (Nat.le_of_ble_eq_true rfl) (Nat.le_of_ble_eq_true rfl) (Nat.le_of_ble_eq_true rfl) (Or.inr ⟨rfl, hz, by first | exact fun h => h.1 c_7 | exact fun h => Int32.not_le.mpr h.2 (Int32.not_lt.mp c_14)⟩) (fun _ h => h) (Nat.le_of_ble_eq_true rfl) (Nat.le_of_ble_eq_true rfl)
  · skip
    refine lv_iload_n hx hb dX7_routeFor_10 rfl (lv_at hl 3 rfl) ?_
    refine lv_sipush (v := 1024) hx hb dX7_routeFor_11 (by decide) ?_
    refine lv_icmp_lt (tgt := 27) hx hb dX7_routeFor_14 (by decide) (fun c_14 => ?_) (fun c_14 => ?_)
    · skip
      refine lv_aload_n hx hb dX7_routeFor_27 rfl (lv_at hl 0 rfl) ?_
      refine lv_iload_n hx hb dX7_routeFor_28 rfl (lv_at hl 3 rfl) ?_
      refine z_goe hw.2 (z_runV Cx hw (c_X6_routeNumber E l Z C y nw bk rl a w.1 w.2 kw rt fs v.2.2.2 k8 k9 (by omega) k1) (cwV 1 Cx.1.2.2.2.2 gX7_routeFor_X6_routeNumber rfl rfl rfl (by decide +kernel) ⟨Nat.le_of_ble_eq_true rfl, Nat.le_of_ble_eq_true rfl⟩) (z_recv Cx hw (r := (RX6, TX6, 4)) k1 rfl) rfl hl.1 rfl (Nat.le_of_ble_eq_true rfl) dX7_routeFor_29 ⟨Nat.le_of_ble_eq_true rfl, Nat.le_of_ble_eq_true rfl⟩) (fun H locs hw => ?_)
      exact vx_ret (z_iret (wf := fun _ => zQ E Z C) Cx hr rfl (Nat.le_of_ble_eq_true rfl) (Nat.le_of_ble_eq_true rfl) k hw ⟨⟨hk, by rw [← slen]; exact hkb, c_7, c_14⟩, by unfold zrouteV; rw [hsv]⟩ dX7_routeFor_32)
    · skip
      exact z_throw (is := 187) Cx hl0 ht hw (List.mem_of_getElem? (i := 15) rfl) (by decide) (List.mem_of_getElem? (i := 1) rfl) (List.mem_of_getElem? (i := 2) rfl) (fun _ h => List.mem_cons_of_mem _ (List.mem_append_left _ (List.mem_append_right _ (h)))) (by decide +kernel) (by decide +kernel) (by decide +kernel) hl.1 dX7_routeFor_17 dX7_routeFor_20 dX7_routeFor_21 dX7_routeFor_23 dX7_routeFor_26 (Nat.le_of_ble_eq_true rfl) (Nat.le_of_ble_eq_true rfl) (Nat.le_of_ble_eq_true rfl) (Nat.le_of_ble_eq_true rfl) (Or.inr ⟨rfl, hz, by first | exact fun h => h.1 c_7 | exact fun h => Int32.not_le.mpr h.2 (Int32.not_lt.mp c_14)⟩) (fun _ h => h) (Nat.le_of_ble_eq_true rfl) (Nat.le_of_ble_eq_true rfl)

set_option maxRecDepth 100000 in
set_option maxHeartbeats 4000000 in
/-- idleRules -/
theorem c_X7_idleRules (E : zG) (l : Launch) (hl0 : l.stackTraces = false) (Z : va_W) (C : zLs) (x : Nat) (V : zCl) (hrc : zRC Z C x V) (f : Int32) : vx_Met l yX7_idleRules wsX7_idleRules (zR 8 20 200) (zPre E [.ref x, .int f] (zQ E Z C)) (va_Qi (fun r (u : Nat) => (f = nI u ∧ u < (vS V).length) ∧ r = nI (zidles [] (zsv V u).2.2.1)) (fun _ tt => zQ E Z C tt.heap) (eA E)) (zX E (zQ E Z C) (fun nm => nm = zIOO ∧ ¬ zix f (vS V).length)) 20 200 (eA E) := by
  refine zx_of (cc := cX7_idleRules) (maxL := 2) (ret := (some .int)) (by decide) rfl rfl (Nat.le_of_ble_eq_true rfl) ?_
  intro p e s m below meth c ls ht Cx hr hnm hw hl
  have hx := Cx.1.1
  have hb := Cx.1.2.1
  obtain ⟨q0, q1, q2, q3, q4, ns, ss, hs, ps, gs, ro, rw, hR⟩ := hrc
  have hR2 := hR
  obtain ⟨hx0, ⟨c0, c1, c2, c3, c4⟩, ⟨z0, z1, z2, z3, z4⟩, -, -, l0, l1, l2, l3, l4⟩ := hR2
  have hlen : hs.length = (vH V).length := z2.1
  have slen : ss.length = (vS V).length := z1.1
  have hl : lv_has ls 2 [(0, .ref x), (1, .int f)] := hl
  refine lv_aload_n hx hb dX7_idleRules_0 rfl (lv_at hl 0 rfl) ?_
  refine lv_iload_n hx hb dX7_idleRules_1 rfl (lv_at hl 1 rfl) ?_
  refine zx_gor (pr := fun (u : Nat × Nat) a => a = u.2) (wf := fun _ => zQ E Z C) hw.2 (zx_runV Cx hw (c_X7_subnetAt E l hl0 Z C x q0 q1 q2 q3 q4 ss hx0 c1 (by omega) hR.sel f) (cwV 1 Cx.1.2.2.2.2 gX7_idleRules_X7_subnetAt rfl rfl rfl (by decide +kernel) ⟨Nat.le_of_ble_eq_true rfl, Nat.le_of_ble_eq_true rfl⟩) (z_recv Cx hw (r := (RX7, TX7, 5)) hx0 rfl) rfl hl.1 rfl (Nat.le_of_ble_eq_true rfl) dX7_idleRules_2 ⟨Nat.le_of_ble_eq_true rfl, Nat.le_of_ble_eq_true rfl⟩) (z_out Cx ht (Nat.le_of_ble_eq_true rfl) (Nat.le_of_ble_eq_true rfl) (fun nm h => by rw [slen] at h; exact h) (fun _ h => h)) (fun u_2 ra_2 H locs hp_2 hr_2 hw => ?_)
  obtain ⟨k, y⟩ := u_2
  obtain ⟨hk, hy⟩ := hp_2
  dsimp only at hk hy
  rw [show ra_2 = y from hr_2]
  have hkb : k < ss.length := (List.getElem?_eq_some_iff.mp hy).1
  have hz : zix f (vS V).length := ⟨k, by rw [← slen]; exact hkb, hk⟩
  obtain ⟨v, hv, nw, bk, rl, rt, es, fs, k1, k2, k3, ⟨k4, k5, k6, k7⟩, ⟨k8, k9, k10, k11⟩, -⟩ := z1.get hy
  obtain ⟨w, hw0, kw⟩ := z0.get k2
  have hsv := zsv_eq hv hw0
  refine z_goe hw.2 (z_runV Cx hw (c_X6_countIdle E l Z C y nw bk rt rl es v.2.2.1 k4 k5 (by omega) k1 k6) (cwV 0 Cx.1.2.2.2.2 gX7_idleRules_X6_countIdleRules rfl rfl rfl (by decide +kernel) ⟨Nat.le_of_ble_eq_true rfl, Nat.le_of_ble_eq_true rfl⟩) (z_recv Cx hw (r := (RX6, TX6, 4)) k1 rfl) rfl hl.1 rfl (Nat.le_of_ble_eq_true rfl) dX7_idleRules_5 ⟨Nat.le_of_ble_eq_true rfl, Nat.le_of_ble_eq_true rfl⟩) (fun H locs hw => ?_)
  exact vx_ret (z_iret (wf := fun _ => zQ E Z C) Cx hr rfl (Nat.le_of_ble_eq_true rfl) (Nat.le_of_ble_eq_true rfl) k hw ⟨⟨hk, by rw [← slen]; exact hkb⟩, by rw [hsv]⟩ dX7_idleRules_8)

set_option maxRecDepth 100000 in
set_option maxHeartbeats 4000000 in
/-- reachedFrom -/
theorem c_X7_reachedFrom (E : zG) (l : Launch) (hl0 : l.stackTraces = false) (Z : va_W) (C : zLs) (x : Nat) (V : zCl) (hrc : zRC Z C x V) (f : Int32) : vx_Met l yX7_reachedFrom wsX7_reachedFrom (zR 8 20 200) (zPre E [.ref x, .int f] (zQ E Z C)) (va_Qi (fun r (u : Nat) => (f = nI u ∧ u < (vH V).length) ∧ r = zreach V u (vH V).length 0 0) (fun _ tt => zQ E Z C tt.heap) (eA E)) (zX E (zQ E Z C) (fun nm => nm = zIOO ∧ ¬ zix f (vH V).length)) 20 200 (eA E) := by
  refine zx_of (cc := cX7_reachedFrom) (maxL := 5) (ret := (some .int)) (by decide) rfl rfl (Nat.le_of_ble_eq_true rfl) ?_
  intro p e s m below meth c ls ht Cx hr hnm hw hl
  have hx := Cx.1.1
  have hb := Cx.1.2.1
  obtain ⟨q0, q1, q2, q3, q4, ns, ss, hs, ps, gs, ro, rw, hR⟩ := hrc
  have hR2 := hR
  obtain ⟨hx0, ⟨c0, c1, c2, c3, c4⟩, ⟨z0, z1, z2, z3, z4⟩, -, -, l0, l1, l2, l3, l4⟩ := hR2
  have hlen : hs.length = (vH V).length := z2.1
  have slen : ss.length = (vS V).length := z1.1
  have hl : lv_has ls 5 [(0, .ref x), (1, .int f)] := hl
  refine lv_aload_n hx hb dX7_reachedFrom_0 rfl (lv_at hl 0 rfl) ?_
  refine lv_iload_n hx hb dX7_reachedFrom_1 rfl (lv_at hl 1 rfl) ?_
  refine zx_gor (pr := fun (u : Nat × Nat) a => a = u.2) (wf := fun _ => zQ E Z C) hw.2 (zx_runV Cx hw (c_X7_hostAt E l hl0 Z C x q0 q1 q2 q3 q4 hs hx0 c2 (by omega) hR.hel f) (cwV 1 Cx.1.2.2.2.2 gX7_reachedFrom_X7_hostAt rfl rfl rfl (by decide +kernel) ⟨Nat.le_of_ble_eq_true rfl, Nat.le_of_ble_eq_true rfl⟩) (z_recv Cx hw (r := (RX7, TX7, 5)) hx0 rfl) rfl hl.1 rfl (Nat.le_of_ble_eq_true rfl) dX7_reachedFrom_2 ⟨Nat.le_of_ble_eq_true rfl, Nat.le_of_ble_eq_true rfl⟩) (z_out Cx ht (Nat.le_of_ble_eq_true rfl) (Nat.le_of_ble_eq_true rfl) (fun nm h => by rw [hlen] at h; exact h) (fun _ h => h)) (fun u_2 ra_2 H locs hp_2 hr_2 hw => ?_)
  obtain ⟨kt, yt⟩ := u_2
  obtain ⟨hkt, hyt⟩ := hp_2
  dsimp only at hkt hyt
  rw [show ra_2 = yt from hr_2]
  have hbt : kt < hs.length := (List.getElem?_eq_some_iff.mp hyt).1
  refine lv_astore_n hx hb dX7_reachedFrom_5 rfl hl (by decide) rfl (fun ls hl => ?_)
  have hl : lv_has ls 5 [(2, .ref yt), (0, .ref x), (1, .int f)] := hl
  refine lv_iconst (v := 0) hx hb dX7_reachedFrom_6 (by decide) ?_
  refine lv_istore_n hx hb dX7_reachedFrom_7 rfl hl (by decide) rfl (fun ls hl => ?_)
  have hl : lv_has ls 5 [(3, .int 0), (2, .ref yt), (0, .ref x), (1, .int f)] := hl
  refine lv_iconst (v := nI 0) hx hb dX7_reachedFrom_8 rfl ?_
  refine lv_istore hx hb dX7_reachedFrom_9 hl (by decide) rfl (fun ls hl => ?_)
  have hl : lv_has ls 5 [(4, .int (nI 0)), (3, .int 0), (2, .ref yt), (0, .ref x), (1, .int f)] := hl
  have loop_11 : ∀ (nn : Nat) (i : Nat) (sm : Int32) (H : Heap) (locs : List Loc) (ls : Array Slot), (i ≤ hs.length) → (zreach V kt (hs.length - i) (i) (sm) = zreach V kt hs.length 0 0) → hs.length - i < nn → zHw E (zQ E Z C) s H locs → lv_has ls 5 [(0, .ref x), (1, .int f), (2, .ref yt), (3, .int sm), (4, .int (nI i))] → W p l e (zR 8 20 200) s m ([.ref x, .int f] : List Value).toArray below meth c H locs 1 6 (vx_MQ below (va_Qi (fun r (u : Nat) => (f = nI u ∧ u < (vH V).length) ∧ r = zreach V u (vH V).length 0 0) (fun _ tt => zQ E Z C tt.heap) (eA E)) (zX E (zQ E Z C) (fun nm => nm = zIOO ∧ ¬ zix f (vH V).length)) ([.ref x, .int f] : List Value).toArray s 20 200 (eA E)) (F0 m 11 ls []) := by
    intro nn
    induction nn with
    | zero => intro i sm H locs ls hi hacc hm; exact absurd hm (Nat.not_lt_zero _)
    | succ nn ih_11 =>
      intro i sm H locs ls hi hacc hm hw hl
      refine lv_iload hx hb dX7_reachedFrom_11 (lv_at hl 4 rfl) ?_
      refine lv_aload_n hx hb dX7_reachedFrom_13 rfl (lv_at hl 0 rfl) ?_
      refine z_get Cx hw (T := TX7) (N := 5) (ci := 10) (fun _ h => List.mem_cons_of_mem _ (List.mem_append_left _ (List.mem_append_left _ (List.mem_append_left _ (List.mem_append_left _ (List.mem_append_left _ (List.mem_append_left _ (List.mem_append_left _ (List.mem_append_left _ (List.mem_append_left _ (List.mem_append_right _ (h)))))))))))) hx0 rfl 2 (by decide) (List.mem_of_getElem? (i := 1) rfl) rfl rfl dX7_reachedFrom_14 ?_
      refine z_goe hw.2 (z_runV Cx hw (c_al_size E l Z C q2 hs c2) (cwV 0 Cx.1.2.2.2.2 gX7_reachedFrom_Jx4a65c_size_8abf5 rfl rfl rfl (by decide +kernel) ⟨Nat.le_of_ble_eq_true rfl, Nat.le_of_ble_eq_true rfl⟩) (z_recvL Cx hw c2) rfl hl.1 rfl (Nat.le_of_ble_eq_true rfl) dX7_reachedFrom_17 ⟨Nat.le_of_ble_eq_true rfl, Nat.le_of_ble_eq_true rfl⟩) (fun H locs hw => ?_)
      refine lv_icmp_ge (tgt := 62) hx hb dX7_reachedFrom_20 (by decide) (fun c_20 => ?_) (fun c_20 => ?_)
      · skip
        refine lv_iload_n hx hb dX7_reachedFrom_62 rfl (lv_at hl 3 rfl) ?_
        have hend : hs.length - i = 0 := by
          have := (nI_leI (a := hs.length) (b := i) (by omega) (by omega)).mp c_20
          omega
        exact vx_ret (z_iret (wf := fun _ => zQ E Z C) Cx hr rfl (Nat.le_of_ble_eq_true rfl) (Nat.le_of_ble_eq_true rfl) kt hw ⟨⟨hkt, by rw [← hlen]; exact hbt⟩, by rw [← hlen, ← hacc, hend]; rfl⟩ dX7_reachedFrom_63)
      · skip
        have hbi := z_lt hi c_20 (by omega)
        have hyi := List.getElem?_eq_getElem hbi
        generalize hs[i] = yi at hyi
        obtain ⟨fi, hci⟩ := hR.hel yi (List.mem_of_getElem? hyi)
        have h9 : hs.length - i = (hs.length - (i + 1)) + 1 := by omega
        refine lv_iload hx hb dX7_reachedFrom_23 (lv_at hl 4 rfl) ?_
        refine lv_iload_n hx hb dX7_reachedFrom_25 rfl (lv_at hl 1 rfl) ?_
        refine lv_icmp_eq (tgt := 56) hx hb dX7_reachedFrom_26 (by decide) (fun c_26 => ?_) (fun c_26 => ?_)
        · skip
          have c_27 : i = kt := (nI_eq (by omega) (by omega)).mp (by rw [← hkt]; exact c_26)
          have hacc2 : zreach V kt (hs.length - (i + 1)) (i + 1) (sm) = zreach V kt hs.length 0 0 := by rw [← hacc, h9, zreach, if_neg (fun h => h.1 c_27)]
          refine lv_iinc (v := nI (i + 1)) hx hb dX7_reachedFrom_56 hl (k := 4) rfl (nI_1 i) (by decide) rfl (fun ls hl => ?_)
          have hl : lv_has ls 5 [(4, .int (nI (i + 1))), (0, .ref x), (1, .int f), (2, .ref yt), (3, .int sm)] := hl
          refine lv_goto (tgt := 11) hx hb dX7_reachedFrom_59 (by decide) ?_
          exact ih_11 (i + 1) _ H _ ls (by omega) hacc2 (by omega) hw (lv_sub hl [1, 2, 3, 4, 0] rfl)
        · skip
          have c_27 : ¬ i = kt := fun h => c_26 (by rw [hkt, h])
          refine lv_aload_n hx hb dX7_reachedFrom_29 rfl (lv_at hl 0 rfl) ?_
          refine lv_aload_n hx hb dX7_reachedFrom_30 rfl (lv_at hl 0 rfl) ?_
          refine z_get Cx hw (T := TX7) (N := 5) (ci := 10) (fun _ h => List.mem_cons_of_mem _ (List.mem_append_left _ (List.mem_append_left _ (List.mem_append_left _ (List.mem_append_left _ (List.mem_append_left _ (List.mem_append_left _ (List.mem_append_left _ (List.mem_append_left _ (List.mem_append_left _ (List.mem_append_right _ (h)))))))))))) hx0 rfl 2 (by decide) (List.mem_of_getElem? (i := 1) rfl) rfl rfl dX7_reachedFrom_31 ?_
          refine lv_iload hx hb dX7_reachedFrom_34 (lv_at hl 4 rfl) ?_
          refine z_goer hw.2 (z_runV Cx hw (c_al_get E l Z C q2 hs c2 i yi hyi) (cwV 1 Cx.1.2.2.2.2 gX7_reachedFrom_Jx4a65c_get_915e3 rfl rfl rfl (by decide +kernel) ⟨Nat.le_of_ble_eq_true rfl, Nat.le_of_ble_eq_true rfl⟩) (z_recvL Cx hw c2) rfl hl.1 rfl (Nat.le_of_ble_eq_true rfl) dX7_reachedFrom_36 ⟨Nat.le_of_ble_eq_true rfl, Nat.le_of_ble_eq_true rfl⟩) (fun H locs hw => ?_)
          refine z_cast Cx hw (r := (RX2, TX2, 3)) hci rfl (List.mem_of_getElem? (i := 2) rfl) dX7_reachedFrom_39 ?_
          refine lv_aload_n hx hb dX7_reachedFrom_42 rfl (lv_at hl 2 rfl) ?_
          refine z_goe hw.2 (z_runV Cx hw (c_X7_work E l Z C x ns ss (vG V) (vP V) hR.cf yi yt _ _ _ _ _ _ _ _ (hR.hf hyi) (hR.hf hyt)) (cwV 2 Cx.1.2.2.2.2 gX7_reachedFrom_X7_workingPorts rfl rfl rfl (by decide +kernel) ⟨Nat.le_of_ble_eq_true rfl, Nat.le_of_ble_eq_true rfl⟩) (z_recv Cx hw (r := (RX7, TX7, 5)) hx0 rfl) rfl hl.1 rfl (Nat.le_of_ble_eq_true rfl) dX7_reachedFrom_43 ⟨Nat.le_of_ble_eq_true rfl, Nat.le_of_ble_eq_true rfl⟩) (fun H locs hw => ?_)
          refine lv_if_eq (tgt := 56) hx hb dX7_reachedFrom_46 (by decide) (fun c_46 => ?_) (fun c_46 => ?_)
          · skip
            have hacc2 : zreach V kt (hs.length - (i + 1)) (i + 1) (sm) = zreach V kt hs.length 0 0 := by rw [← hacc, h9, zreach, if_neg (fun h => h.2 c_46)]
            refine lv_iinc (v := nI (i + 1)) hx hb dX7_reachedFrom_56 hl (k := 4) rfl (nI_1 i) (by decide) rfl (fun ls hl => ?_)
            have hl : lv_has ls 5 [(4, .int (nI (i + 1))), (0, .ref x), (1, .int f), (2, .ref yt), (3, .int sm)] := hl
            refine lv_goto (tgt := 11) hx hb dX7_reachedFrom_59 (by decide) ?_
            exact ih_11 (i + 1) _ H _ ls (by omega) hacc2 (by omega) hw (lv_sub hl [1, 2, 3, 4, 0] rfl)
          · skip
            have hacc2 : zreach V kt (hs.length - (i + 1)) (i + 1) (sm + zbit (nI i)) = zreach V kt hs.length 0 0 := by rw [← hacc, h9, zreach, if_pos ⟨c_27, c_46⟩]
            refine lv_iload_n hx hb dX7_reachedFrom_49 rfl (lv_at hl 3 rfl) ?_
            refine lv_iconst (v := 1) hx hb dX7_reachedFrom_50 (by decide) ?_
            refine lv_iload hx hb dX7_reachedFrom_51 (lv_at hl 4 rfl) ?_
            refine lv_ishl hx hb dX7_reachedFrom_53 ?_
            refine lv_iadd hx hb dX7_reachedFrom_54 ?_
            refine lv_istore_n hx hb dX7_reachedFrom_55 rfl hl (by decide) rfl (fun ls hl => ?_)
            have hl : lv_has ls 5 [(3, _), (0, .ref x), (1, .int f), (2, .ref yt), (4, .int (nI i))] := hl
            refine lv_iinc (v := nI (i + 1)) hx hb dX7_reachedFrom_56 hl (k := 4) rfl (nI_1 i) (by decide) rfl (fun ls hl => ?_)
            have hl : lv_has ls 5 [(4, .int (nI (i + 1))), (3, _), (0, .ref x), (1, .int f), (2, .ref yt)] := hl
            refine lv_goto (tgt := 11) hx hb dX7_reachedFrom_59 (by decide) ?_
            exact ih_11 (i + 1) _ H _ ls (by omega) hacc2 (by omega) hw (lv_sub hl [2, 3, 4, 1, 0] rfl)
  exact loop_11 ((hs.length - 0) + 1) 0 0 _ _ ls (Nat.zero_le _) rfl (Nat.lt_succ_self _) hw (lv_sub hl [3, 4, 2, 1, 0] rfl)

set_option maxRecDepth 100000 in
set_option maxHeartbeats 4000000 in
/-- pairs -/
theorem c_X7_pairs (E : zG) (l : Launch) (hl0 : l.stackTraces = false) (Z : va_W) (C : zLs) (x : Nat) (V : zCl) (hrc : zRC Z C x V) (f : Int32) : vx_Met l yX7_pairs wsX7_pairs (zR 8 20 200) (zPre E [.ref x, .int f] (zQ E Z C)) (va_Qi (fun r (_ : Unit) => zprt f ∧ r = nI (zpairsO V (zbit f) (vH V).length (vH V).length 0 0)) (fun _ tt => zQ E Z C tt.heap) (eA E)) (zX E (zQ E Z C) (fun nm => nm = zIAE ∧ ¬ zprt f)) 20 200 (eA E) := by
  refine zx_of (cc := cX7_pairs) (maxL := 6) (ret := (some .int)) (by decide) rfl rfl (Nat.le_of_ble_eq_true rfl) ?_
  intro p e s m below meth c ls ht Cx hr hnm hw hl
  have hx := Cx.1.1
  have hb := Cx.1.2.1
  obtain ⟨q0, q1, q2, q3, q4, ns, ss, hs, ps, gs, ro, rw, hR⟩ := hrc
  have hR2 := hR
  obtain ⟨hx0, ⟨c0, c1, c2, c3, c4⟩, ⟨z0, z1, z2, z3, z4⟩, -, -, l0, l1, l2, l3, l4⟩ := hR2
  have hlen : hs.length = (vH V).length := z2.1
  have slen : ss.length = (vS V).length := z1.1
  have hl : lv_has ls 6 [(0, .ref x), (1, .int f)] := hl
  refine lv_iload_n hx hb dX7_pairs_0 rfl (lv_at hl 1 rfl) ?_
  refine zx_goi (wf := fun _ => zQ E Z C) hw.2 (zx_runS Cx hw (c_X7_singlePort E l hl0 Z C f) (va_cwS 1 Cx.1.2.2.2.2 gX7_pairs_X7_singlePort rfl rfl rfl (by decide +kernel) ⟨Nat.le_of_ble_eq_true rfl, Nat.le_of_ble_eq_true rfl⟩)  rfl hl.1 rfl (Nat.le_of_ble_eq_true rfl) dX7_pairs_1 ⟨Nat.le_of_ble_eq_true rfl, Nat.le_of_ble_eq_true rfl⟩) (z_out Cx ht (Nat.le_of_ble_eq_true rfl) (Nat.le_of_ble_eq_true rfl) (fun nm h => h) (fun _ h => h)) (fun r_1 _ H locs hp_1 hw => ?_)
  have e_1 : r_1 = zbit f := hp_1.1
  subst e_1
  refine lv_istore_n hx hb dX7_pairs_4 rfl hl (by decide) rfl (fun ls hl => ?_)
  have hl : lv_has ls 6 [(2, .int (zbit f)), (0, .ref x), (1, .int f)] := hl
  refine lv_iconst (v := nI 0) hx hb dX7_pairs_5 rfl ?_
  refine lv_istore_n hx hb dX7_pairs_6 rfl hl (by decide) rfl (fun ls hl => ?_)
  have hl : lv_has ls 6 [(3, .int (nI 0)), (2, .int (zbit f)), (0, .ref x), (1, .int f)] := hl
  refine lv_iconst (v := nI 0) hx hb dX7_pairs_7 rfl ?_
  refine lv_istore hx hb dX7_pairs_8 hl (by decide) rfl (fun ls hl => ?_)
  have hl : lv_has ls 6 [(4, .int (nI 0)), (3, .int (nI 0)), (2, .int (zbit f)), (0, .ref x), (1, .int f)] := hl
  have loop_10 : ∀ (nn : Nat) (i n0 : Nat) (H : Heap) (locs : List Loc) (ls : Array Slot), (i ≤ hs.length) → (zpairsO V (zbit f) hs.length (hs.length - i) (i) (n0) = zpairsO V (zbit f) hs.length hs.length 0 0) → hs.length - i < nn → zHw E (zQ E Z C) s H locs → lv_has ls 6 [(0, .ref x), (1, .int f), (2, .int (zbit f)), (3, .int (nI n0)), (4, .int (nI i))] → W p l e (zR 8 20 200) s m ([.ref x, .int f] : List Value).toArray below meth c H locs 1 6 (vx_MQ below (va_Qi (fun r (_ : Unit) => zprt f ∧ r = nI (zpairsO V (zbit f) (vH V).length (vH V).length 0 0)) (fun _ tt => zQ E Z C tt.heap) (eA E)) (zX E (zQ E Z C) (fun nm => nm = zIAE ∧ ¬ zprt f)) ([.ref x, .int f] : List Value).toArray s 20 200 (eA E)) (F0 m 10 ls []) := by
    intro nn
    induction nn with
    | zero => intro i n0 H locs ls hi hacc hm; exact absurd hm (Nat.not_lt_zero _)
    | succ nn ih_10 =>
      intro i n0 H locs ls hi hacc hm hw hl
      refine lv_iload hx hb dX7_pairs_10 (lv_at hl 4 rfl) ?_
      refine lv_aload_n hx hb dX7_pairs_12 rfl (lv_at hl 0 rfl) ?_
      refine z_get Cx hw (T := TX7) (N := 5) (ci := 10) (fun _ h => List.mem_cons_of_mem _ (List.mem_append_left _ (List.mem_append_left _ (List.mem_append_left _ (List.mem_append_left _ (List.mem_append_left _ (List.mem_append_left _ (List.mem_append_left _ (List.mem_append_left _ (List.mem_append_left _ (List.mem_append_right _ (h)))))))))))) hx0 rfl 2 (by decide) (List.mem_of_getElem? (i := 1) rfl) rfl rfl dX7_pairs_13 ?_
      refine z_goe hw.2 (z_runV Cx hw (c_al_size E l Z C q2 hs c2) (cwV 0 Cx.1.2.2.2.2 gX7_pairs_Jx4a65c_size_8abf5 rfl rfl rfl (by decide +kernel) ⟨Nat.le_of_ble_eq_true rfl, Nat.le_of_ble_eq_true rfl⟩) (z_recvL Cx hw c2) rfl hl.1 rfl (Nat.le_of_ble_eq_true rfl) dX7_pairs_16 ⟨Nat.le_of_ble_eq_true rfl, Nat.le_of_ble_eq_true rfl⟩) (fun H locs hw => ?_)
      refine lv_icmp_ge (tgt := 92) hx hb dX7_pairs_19 (by decide) (fun c_19 => ?_) (fun c_19 => ?_)
      · skip
        refine lv_iload_n hx hb dX7_pairs_92 rfl (lv_at hl 3 rfl) ?_
        have hend : hs.length - i = 0 := by
          have := (nI_leI (a := hs.length) (b := i) (by omega) (by omega)).mp c_19
          omega
        exact vx_ret (z_iret (wf := fun _ => zQ E Z C) Cx hr rfl (Nat.le_of_ble_eq_true rfl) (Nat.le_of_ble_eq_true rfl) () hw ⟨hp_1.2, by rw [← hlen, ← hacc, hend]; rfl⟩ dX7_pairs_93)
      · skip
        have hbi := z_lt hi c_19 (by omega)
        have hyi := List.getElem?_eq_getElem hbi
        generalize hs[i] = yi at hyi
        obtain ⟨fi, hci⟩ := hR.hel yi (List.mem_of_getElem? hyi)
        have h9 : hs.length - i = (hs.length - (i + 1)) + 1 := by omega
        refine lv_iconst (v := nI 0) hx hb dX7_pairs_22 rfl ?_
        refine lv_istore hx hb dX7_pairs_23 hl (by decide) rfl (fun ls hl => ?_)
        have hl : lv_has ls 6 [(5, .int (nI 0)), (0, .ref x), (1, .int f), (2, .int (zbit f)), (3, .int (nI n0)), (4, .int (nI i))] := hl
        have loop_25 : ∀ (nn : Nat) (j d : Nat) (H : Heap) (locs : List Loc) (ls : Array Slot), (j ≤ hs.length) → (zpairsI V (zbit f) i (hs.length - j) (j) (d) = zpairsI V (zbit f) i hs.length 0 n0) → hs.length - j < nn → zHw E (zQ E Z C) s H locs → lv_has ls 6 [(0, .ref x), (1, .int f), (2, .int (zbit f)), (3, .int (nI d)), (4, .int (nI i)), (5, .int (nI j))] → W p l e (zR 8 20 200) s m ([.ref x, .int f] : List Value).toArray below meth c H locs 1 6 (vx_MQ below (va_Qi (fun r (_ : Unit) => zprt f ∧ r = nI (zpairsO V (zbit f) (vH V).length (vH V).length 0 0)) (fun _ tt => zQ E Z C tt.heap) (eA E)) (zX E (zQ E Z C) (fun nm => nm = zIAE ∧ ¬ zprt f)) ([.ref x, .int f] : List Value).toArray s 20 200 (eA E)) (F0 m 25 ls []) := by
          intro nn
          induction nn with
          | zero => intro j d H locs ls hij haccj hm; exact absurd hm (Nat.not_lt_zero _)
          | succ nn ih_25 =>
            intro j d H locs ls hij haccj hm hw hl
            refine lv_iload hx hb dX7_pairs_25 (lv_at hl 5 rfl) ?_
            refine lv_aload_n hx hb dX7_pairs_27 rfl (lv_at hl 0 rfl) ?_
            refine z_get Cx hw (T := TX7) (N := 5) (ci := 10) (fun _ h => List.mem_cons_of_mem _ (List.mem_append_left _ (List.mem_append_left _ (List.mem_append_left _ (List.mem_append_left _ (List.mem_append_left _ (List.mem_append_left _ (List.mem_append_left _ (List.mem_append_left _ (List.mem_append_left _ (List.mem_append_right _ (h)))))))))))) hx0 rfl 2 (by decide) (List.mem_of_getElem? (i := 1) rfl) rfl rfl dX7_pairs_28 ?_
            refine z_goe hw.2 (z_runV Cx hw (c_al_size E l Z C q2 hs c2) (cwV 0 Cx.1.2.2.2.2 gX7_pairs_Jx4a65c_size_8abf5 rfl rfl rfl (by decide +kernel) ⟨Nat.le_of_ble_eq_true rfl, Nat.le_of_ble_eq_true rfl⟩) (z_recvL Cx hw c2) rfl hl.1 rfl (Nat.le_of_ble_eq_true rfl) dX7_pairs_31 ⟨Nat.le_of_ble_eq_true rfl, Nat.le_of_ble_eq_true rfl⟩) (fun H locs hw => ?_)
            refine lv_icmp_ge (tgt := 86) hx hb dX7_pairs_34 (by decide) (fun c_34 => ?_) (fun c_34 => ?_)
            · skip
              have hend : hs.length - j = 0 := by
                have := (nI_leI (a := hs.length) (b := j) (by omega) (by omega)).mp c_34
                omega
              have hacc3 : zpairsO V (zbit f) hs.length (hs.length - (i + 1)) (i + 1) (d) = zpairsO V (zbit f) hs.length hs.length 0 0 := by rw [← hacc, h9, zpairsO, ← haccj, hend]; rfl
              refine lv_iinc (v := nI (i + 1)) hx hb dX7_pairs_86 hl (k := 4) rfl (nI_1 i) (by decide) rfl (fun ls hl => ?_)
              have hl : lv_has ls 6 [(4, .int (nI (i + 1))), (0, .ref x), (1, .int f), (2, .int (zbit f)), (3, .int (nI d)), (5, .int (nI j))] := hl
              refine lv_goto (tgt := 10) hx hb dX7_pairs_89 (by decide) ?_
              exact ih_10 (i + 1) d H _ ls (by omega) hacc3 (by omega) hw (lv_sub hl [1, 2, 3, 4, 0] rfl)
            · skip
              have hbj := z_lt hij c_34 (by omega)
              have hyj := List.getElem?_eq_getElem hbj
              generalize hs[j] = yj at hyj
              obtain ⟨fj, hcj⟩ := hR.hel yj (List.mem_of_getElem? hyj)
              have h8 : hs.length - j = (hs.length - (j + 1)) + 1 := by omega
              refine lv_iload hx hb dX7_pairs_37 (lv_at hl 4 rfl) ?_
              refine lv_iload hx hb dX7_pairs_39 (lv_at hl 5 rfl) ?_
              refine lv_icmp_eq (tgt := 80) hx hb dX7_pairs_41 (by decide) (fun c_41 => ?_) (fun c_41 => ?_)
              · skip
                have c_42 : i = j := (nI_eq (by omega) (by omega)).mp c_41
                have haccj2 : zpairsI V (zbit f) i (hs.length - (j + 1)) (j + 1) (d) = zpairsI V (zbit f) i hs.length 0 n0 := by rw [← haccj, h8, zpairsI, if_neg (fun h => h.1 c_42)]
                refine lv_iinc (v := nI (j + 1)) hx hb dX7_pairs_80 hl (k := 5) rfl (nI_1 j) (by decide) rfl (fun ls hl => ?_)
                have hl : lv_has ls 6 [(5, .int (nI (j + 1))), (0, .ref x), (1, .int f), (2, .int (zbit f)), (3, .int (nI d)), (4, .int (nI i))] := hl
                refine lv_goto (tgt := 25) hx hb dX7_pairs_83 (by decide) ?_
                exact ih_25 (j + 1) _ H _ ls (by omega) haccj2 (by omega) hw (lv_sub hl [1, 2, 3, 4, 5, 0] rfl)
              · skip
                have c_42 : ¬ i = j := fun h => c_41 (by rw [h])
                refine lv_aload_n hx hb dX7_pairs_44 rfl (lv_at hl 0 rfl) ?_
                refine lv_aload_n hx hb dX7_pairs_45 rfl (lv_at hl 0 rfl) ?_
                refine z_get Cx hw (T := TX7) (N := 5) (ci := 10) (fun _ h => List.mem_cons_of_mem _ (List.mem_append_left _ (List.mem_append_left _ (List.mem_append_left _ (List.mem_append_left _ (List.mem_append_left _ (List.mem_append_left _ (List.mem_append_left _ (List.mem_append_left _ (List.mem_append_left _ (List.mem_append_right _ (h)))))))))))) hx0 rfl 2 (by decide) (List.mem_of_getElem? (i := 1) rfl) rfl rfl dX7_pairs_46 ?_
                refine lv_iload hx hb dX7_pairs_49 (lv_at hl 4 rfl) ?_
                refine z_goer hw.2 (z_runV Cx hw (c_al_get E l Z C q2 hs c2 i yi hyi) (cwV 1 Cx.1.2.2.2.2 gX7_pairs_Jx4a65c_get_915e3 rfl rfl rfl (by decide +kernel) ⟨Nat.le_of_ble_eq_true rfl, Nat.le_of_ble_eq_true rfl⟩) (z_recvL Cx hw c2) rfl hl.1 rfl (Nat.le_of_ble_eq_true rfl) dX7_pairs_51 ⟨Nat.le_of_ble_eq_true rfl, Nat.le_of_ble_eq_true rfl⟩) (fun H locs hw => ?_)
                refine z_cast Cx hw (r := (RX2, TX2, 3)) hci rfl (List.mem_of_getElem? (i := 2) rfl) dX7_pairs_54 ?_
                refine lv_aload_n hx hb dX7_pairs_57 rfl (lv_at hl 0 rfl) ?_
                refine z_get Cx hw (T := TX7) (N := 5) (ci := 10) (fun _ h => List.mem_cons_of_mem _ (List.mem_append_left _ (List.mem_append_left _ (List.mem_append_left _ (List.mem_append_left _ (List.mem_append_left _ (List.mem_append_left _ (List.mem_append_left _ (List.mem_append_left _ (List.mem_append_left _ (List.mem_append_right _ (h)))))))))))) hx0 rfl 2 (by decide) (List.mem_of_getElem? (i := 1) rfl) rfl rfl dX7_pairs_58 ?_
                refine lv_iload hx hb dX7_pairs_61 (lv_at hl 5 rfl) ?_
                refine z_goer hw.2 (z_runV Cx hw (c_al_get E l Z C q2 hs c2 j yj hyj) (cwV 1 Cx.1.2.2.2.2 gX7_pairs_Jx4a65c_get_915e3 rfl rfl rfl (by decide +kernel) ⟨Nat.le_of_ble_eq_true rfl, Nat.le_of_ble_eq_true rfl⟩) (z_recvL Cx hw c2) rfl hl.1 rfl (Nat.le_of_ble_eq_true rfl) dX7_pairs_63 ⟨Nat.le_of_ble_eq_true rfl, Nat.le_of_ble_eq_true rfl⟩) (fun H locs hw => ?_)
                refine z_cast Cx hw (r := (RX2, TX2, 3)) hcj rfl (List.mem_of_getElem? (i := 2) rfl) dX7_pairs_66 ?_
                refine z_goe hw.2 (z_runV Cx hw (c_X7_work E l Z C x ns ss (vG V) (vP V) hR.cf yi yj _ _ _ _ _ _ _ _ (hR.hf hyi) (hR.hf hyj)) (cwV 2 Cx.1.2.2.2.2 gX7_pairs_X7_workingPorts rfl rfl rfl (by decide +kernel) ⟨Nat.le_of_ble_eq_true rfl, Nat.le_of_ble_eq_true rfl⟩) (z_recv Cx hw (r := (RX7, TX7, 5)) hx0 rfl) rfl hl.1 rfl (Nat.le_of_ble_eq_true rfl) dX7_pairs_69 ⟨Nat.le_of_ble_eq_true rfl, Nat.le_of_ble_eq_true rfl⟩) (fun H locs hw => ?_)
                refine lv_iload_n hx hb dX7_pairs_72 rfl (lv_at hl 2 rfl) ?_
                refine lv_iand hx hb dX7_pairs_73 ?_
                refine lv_if_eq (tgt := 80) hx hb dX7_pairs_74 (by decide) (fun c_74 => ?_) (fun c_74 => ?_)
                · skip
                  have haccj2 : zpairsI V (zbit f) i (hs.length - (j + 1)) (j + 1) (d) = zpairsI V (zbit f) i hs.length 0 n0 := by rw [← haccj, h8, zpairsI, if_neg (fun h => h.2 c_74)]
                  refine lv_iinc (v := nI (j + 1)) hx hb dX7_pairs_80 hl (k := 5) rfl (nI_1 j) (by decide) rfl (fun ls hl => ?_)
                  have hl : lv_has ls 6 [(5, .int (nI (j + 1))), (0, .ref x), (1, .int f), (2, .int (zbit f)), (3, .int (nI d)), (4, .int (nI i))] := hl
                  refine lv_goto (tgt := 25) hx hb dX7_pairs_83 (by decide) ?_
                  exact ih_25 (j + 1) _ H _ ls (by omega) haccj2 (by omega) hw (lv_sub hl [1, 2, 3, 4, 5, 0] rfl)
                · skip
                  have haccj2 : zpairsI V (zbit f) i (hs.length - (j + 1)) (j + 1) (d + 1) = zpairsI V (zbit f) i hs.length 0 n0 := by rw [← haccj, h8, zpairsI, if_pos ⟨c_42, c_74⟩]
                  refine lv_iinc (v := nI (d + 1)) hx hb dX7_pairs_77 hl (k := 3) rfl (nI_1 d) (by decide) rfl (fun ls hl => ?_)
                  have hl : lv_has ls 6 [(3, .int (nI (d + 1))), (0, .ref x), (1, .int f), (2, .int (zbit f)), (4, .int (nI i)), (5, .int (nI j))] := hl
                  refine lv_iinc (v := nI (j + 1)) hx hb dX7_pairs_80 hl (k := 5) rfl (nI_1 j) (by decide) rfl (fun ls hl => ?_)
                  have hl : lv_has ls 6 [(5, .int (nI (j + 1))), (3, .int (nI (d + 1))), (0, .ref x), (1, .int f), (2, .int (zbit f)), (4, .int (nI i))] := hl
                  refine lv_goto (tgt := 25) hx hb dX7_pairs_83 (by decide) ?_
                  exact ih_25 (j + 1) _ H _ ls (by omega) haccj2 (by omega) hw (lv_sub hl [2, 3, 4, 1, 5, 0] rfl)
        exact loop_25 ((hs.length - 0) + 1) 0 n0 _ _ ls (Nat.zero_le _) rfl (Nat.lt_succ_self _) hw (lv_sub hl [1, 2, 3, 4, 5, 0] rfl)
  exact loop_10 ((hs.length - 0) + 1) 0 0 _ _ ls (Nat.zero_le _) rfl (Nat.lt_succ_self _) hw (lv_sub hl [3, 4, 2, 1, 0] rfl)


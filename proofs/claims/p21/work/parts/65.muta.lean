set_option maxRecDepth 100000 in
set_option maxHeartbeats 4000000 in
/-- addPeering -/
theorem c_X7_addPeering (E : zG) (l : Launch) (hl0 : l.stackTraces = false) (X Y : va_W) (C : zLs) (x : Nat) (V : zCl) (hrc : zRC Y C x V) (f t : Int32) : vx_Met l yX7_addPeering wsX7_addPeering (zR 8 20 200) (zPre E [.ref x, .int f, .int t] (zQ E (X ++ Y) C)) (va_Qi (fun r (u : va_W × zLs) => ∃ k j : Nat, (f = nI k ∧ t = nI j ∧ k < (vN V).length ∧ j < (vN V).length ∧ ¬ f = t ∧ (vP V).length < 6) ∧ zRC u.1 u.2 x (vN V, vS V, vH V, vP V ++ [(k, j)], vG V) ∧ r = nI (vP V).length) (fun u tt => zQ E (X ++ u.1) u.2 tt.heap) (eA E)) (zX E (zQ E (X ++ Y) C) (fun nm => (nm = zIOO ∧ ¬ (zix f (vN V).length ∧ zix t (vN V).length)) ∨ (nm = zIAE ∧ (zix f (vN V).length ∧ zix t (vN V).length) ∧ f = t) ∨ (nm = zISE ∧ (zix f (vN V).length ∧ zix t (vN V).length) ∧ ¬ f = t ∧ 6 ≤ (vP V).length))) 20 200 (eA E) := by
  refine zx_of (cc := cX7_addPeering) (maxL := 5) (ret := (some .int)) (by decide) rfl rfl (Nat.le_of_ble_eq_true rfl) ?_
  intro p e s m below meth c ls ht Cx hr hnm hw hl
  have hx := Cx.1.1
  have hb := Cx.1.2.1
  obtain ⟨q0, q1, q2, q3, q4, ns, ss, hs, ps, gs, ro, rw, hR⟩ := hrc
  have hCV := zQ.V hw.1
  have hX := hR.grow (fun _ h => List.mem_append_right X h)
  have hR2 := hX
  obtain ⟨hx0, ⟨c0, c1, c2, c3, c4⟩, ⟨z0, z1, z2, z3, z4⟩, ⟨n0, n1, n2, n4⟩, -, l0, l1, l2, l3, l4⟩ := hR2
  have nlen : ns.length = (vN V).length := z0.1
  have slen : ss.length = (vS V).length := z1.1
  have hlen : hs.length = (vH V).length := z2.1
  have plen : ps.length = (vP V).length := z3.1
  have glen : gs.length = (vG V).length := z4.1
  have hR3 := hR
  obtain ⟨-, -, ⟨y0, y1, y2, y3, y4⟩, -⟩ := hR3
  have hl : lv_has ls 5 [(0, .ref x), (1, .int f), (2, .int t)] := hl
  refine lv_aload_n hx hb dX7_addPeering_0 rfl (lv_at hl 0 rfl) ?_
  refine lv_iload_n hx hb dX7_addPeering_1 rfl (lv_at hl 1 rfl) ?_
  refine zx_gor (pr := fun (u : Nat × Nat) a => a = u.2) (wf := fun _ => zQ E (X ++ Y) C) hw.2 (zx_runV Cx hw (c_X7_networkAt E l hl0 _ _ x q0 q1 q2 q3 q4 ns hx0 c0 (by omega) hX.nel f) (cwV 1 Cx.1.2.2.2.2 gX7_addPeering_X7_networkAt rfl rfl rfl (by decide +kernel) ⟨Nat.le_of_ble_eq_true rfl, Nat.le_of_ble_eq_true rfl⟩) (z_recv Cx hw (r := (RX7, TX7, 5)) hx0 rfl) rfl hl.1 rfl (Nat.le_of_ble_eq_true rfl) dX7_addPeering_2 ⟨Nat.le_of_ble_eq_true rfl, Nat.le_of_ble_eq_true rfl⟩) (z_out Cx ht (Nat.le_of_ble_eq_true rfl) (Nat.le_of_ble_eq_true rfl) (fun nm h => by rw [nlen] at h; exact Or.inl ⟨h.1, fun hh => h.2 hh.1⟩) (fun _ h => h)) (fun u_2 ra_2 H locs hp_2 hr_2 hw => ?_)
  obtain ⟨k, oa⟩ := u_2
  obtain ⟨hk, hyk⟩ := hp_2
  dsimp only at hk hyk
  rw [show ra_2 = oa from hr_2]
  have hbk : k < ns.length := (List.getElem?_eq_some_iff.mp hyk).1
  refine lv_astore_n hx hb dX7_addPeering_5 rfl hl (by decide) rfl (fun ls hl => ?_)
  have hl : lv_has ls 5 [(3, .ref oa), (0, .ref x), (1, .int f), (2, .int t)] := hl
  refine lv_aload_n hx hb dX7_addPeering_6 rfl (lv_at hl 1 rfl) ?_
  refine lv_iload_n hx hb dX7_addPeering_7 rfl (lv_at hl 3 rfl) ?_
  refine zx_gor (pr := fun (u : Nat × Nat) a => a = u.2) (wf := fun _ => zQ E (X ++ Y) C) hw.2 (zx_runV Cx hw (c_X7_networkAt E l hl0 _ _ x q0 q1 q2 q3 q4 ns hx0 c0 (by omega) hX.nel t) (cwV 1 Cx.1.2.2.2.2 gX7_addPeering_X7_networkAt rfl rfl rfl (by decide +kernel) ⟨Nat.le_of_ble_eq_true rfl, Nat.le_of_ble_eq_true rfl⟩) (z_recv Cx hw (r := (RX7, TX7, 5)) hx0 rfl) rfl hl.1 rfl (Nat.le_of_ble_eq_true rfl) dX7_addPeering_8 ⟨Nat.le_of_ble_eq_true rfl, Nat.le_of_ble_eq_true rfl⟩) (z_out Cx ht (Nat.le_of_ble_eq_true rfl) (Nat.le_of_ble_eq_true rfl) (fun nm h => by rw [nlen] at h; exact Or.inl ⟨h.1, fun hh => h.2 hh.2⟩) (fun _ h => h)) (fun u_8 ra_8 H locs hp_8 hr_8 hw => ?_)
  obtain ⟨j, ob⟩ := u_8
  obtain ⟨hj, hyj⟩ := hp_8
  dsimp only at hj hyj
  rw [show ra_8 = ob from hr_8]
  have hbj : j < ns.length := (List.getElem?_eq_some_iff.mp hyj).1
  refine lv_astore hx hb dX7_addPeering_11 hl (by decide) rfl (fun ls hl => ?_)
  have hl : lv_has ls 5 [(4, .ref ob), (3, .ref oa), (0, .ref x), (1, .int f), (2, .int t)] := hl
  refine lv_iload_n hx hb dX7_addPeering_13 rfl (lv_at hl 3 rfl) ?_
  refine lv_iload_n hx hb dX7_addPeering_14 rfl (lv_at hl 4 rfl) ?_
  refine lv_icmp_ne (tgt := 28) hx hb dX7_addPeering_15 (by decide) (fun c_15 => ?_) (fun c_15 => ?_)
  · skip
    refine lv_aload_n hx hb dX7_addPeering_28 rfl (lv_at hl 2 rfl) ?_
    refine z_get Cx hw (T := TX7) (N := 5) (ci := 10) (fun _ h => List.mem_cons_of_mem _ (List.mem_append_left _ (List.mem_append_left _ (List.mem_append_left _ (List.mem_append_left _ (List.mem_append_left _ (List.mem_append_right _ (h)))))))) hx0 rfl 3 (by decide) (List.mem_of_getElem? (i := 5) rfl) rfl rfl dX7_addPeering_29 ?_
    refine z_goe hw.2 (z_runV Cx hw (c_al_size E l _ _ q3 ps c3) (cwV 0 Cx.1.2.2.2.2 gX7_addPeering_Jx4a65c_size_8abf5 rfl rfl rfl (by decide +kernel) ⟨Nat.le_of_ble_eq_true rfl, Nat.le_of_ble_eq_true rfl⟩) (z_recvL Cx hw c3) rfl hl.1 rfl (Nat.le_of_ble_eq_true rfl) dX7_addPeering_32 ⟨Nat.le_of_ble_eq_true rfl, Nat.le_of_ble_eq_true rfl⟩) (fun H locs hw => ?_)
    refine lv_bipush (v := nI 6) hx hb dX7_addPeering_35 rfl ?_
    refine lv_icmp_lt (tgt := 50) hx hb dX7_addPeering_37 (by decide) (fun c_37 => ?_) (fun c_37 => ?_)
    · skip
      have c_lt : ps.length < 6 := (nI_ltI (by omega) (by omega)).mp c_37
      refine lv_aload_n hx hb dX7_addPeering_50 rfl (lv_at hl 2 rfl) ?_
      refine z_get Cx hw (T := TX7) (N := 5) (ci := 10) (fun _ h => List.mem_cons_of_mem _ (List.mem_append_left _ (List.mem_append_left _ (List.mem_append_left _ (List.mem_append_left _ (List.mem_append_left _ (List.mem_append_right _ (h)))))))) hx0 rfl 3 (by decide) (List.mem_of_getElem? (i := 5) rfl) rfl rfl dX7_addPeering_51 ?_
      refine z_new Cx hw (T := TX3) (N := 2) (ci := 6) (fs := [.null, .null]) (fun _ h => List.mem_cons_of_mem _ (List.mem_append_left _ (List.mem_append_left _ (List.mem_append_left _ (List.mem_append_left _ (List.mem_append_right _ (h))))))) tyX3 tyX3_ok (List.mem_of_getElem? (i := 6) rfl) (List.mem_of_getElem? (i := 7) rfl) (List.mem_of_getElem? (i := 8) rfl) rfl (fun j hj => by rcases (show j = 0 ∨ j = 1 by omega) with rfl | rfl <;> rfl) (Nat.le_of_ble_eq_true rfl) (Nat.le_of_ble_eq_true rfl) dX7_addPeering_54 (fun q H hfr hw => ?_)
      refine lv_dup hx hb dX7_addPeering_57 rfl ?_
      refine lv_aload_n hx hb dX7_addPeering_58 rfl (lv_at hl 1 rfl) ?_
      refine lv_aload hx hb dX7_addPeering_59 (lv_at hl 0 rfl) ?_
      refine z_goev hw.2 (z_runI Cx hw (c_X3_init E l X Y C q (fun x h => hfr x (List.mem_append_right X h)) oa ob) (cwI 2 Cx.1.2.2.2.2 gX7_addPeering_X3_init rfl rfl rfl (Cx.1.2.2.2.2 (.initialized RX3) (List.mem_of_getElem? (i := 8) rfl)) (Cx.1.2.2.2.2 (.methodLink RX7 113 yX3_init) (List.mem_of_getElem? (i := 44) rfl)) (Cx.1.2.2.2.2 (.instanceMethod yX3_init) (List.mem_of_getElem? (i := 45) rfl)) rfl (by decide +kernel) ⟨Nat.le_of_ble_eq_true rfl, Nat.le_of_ble_eq_true rfl⟩)  rfl hl.1 rfl (Nat.le_of_ble_eq_true rfl) dX7_addPeering_61 ⟨Nat.le_of_ble_eq_true rfl, Nat.le_of_ble_eq_true rfl⟩) (fun H locs hw => ?_)
      refine z_goe hw.2 (z_runV Cx hw (c_al_add E l _ _ q3 ps c3 q ⟨6, _, z_inq, by decide, by decide⟩ (by omega)) (cwV 1 Cx.1.2.2.2.2 gX7_addPeering_Jx4a65c_add_9ea2d rfl rfl rfl (by decide +kernel) ⟨Nat.le_of_ble_eq_true rfl, Nat.le_of_ble_eq_true rfl⟩) (z_recvL Cx hw c3) rfl hl.1 rfl (Nat.le_of_ble_eq_true rfl) dX7_addPeering_64 ⟨Nat.le_of_ble_eq_true rfl, Nat.le_of_ble_eq_true rfl⟩) (fun H locs hw => ?_)
      refine lv_pop hx hb dX7_addPeering_67 rfl ?_
      refine lv_aload_n hx hb dX7_addPeering_68 rfl (lv_at hl 2 rfl) ?_
      refine z_get Cx hw (T := TX7) (N := 5) (ci := 10) (fun _ h => List.mem_cons_of_mem _ (List.mem_append_left _ (List.mem_append_left _ (List.mem_append_left _ (List.mem_append_left _ (List.mem_append_left _ (List.mem_append_right _ (h)))))))) (z_in1 hx0) rfl 3 (by decide) (List.mem_of_getElem? (i := 5) rfl) rfl rfl dX7_addPeering_69 ?_
      refine z_goe hw.2 (z_runV Cx hw (c_al_size E l _ _ q3 _ (va_up_self _ _ _)) (cwV 0 Cx.1.2.2.2.2 gX7_addPeering_Jx4a65c_size_8abf5 rfl rfl rfl (by decide +kernel) ⟨Nat.le_of_ble_eq_true rfl, Nat.le_of_ble_eq_true rfl⟩) (z_recvL Cx hw (va_up_self _ _ _)) rfl hl.1 rfl (Nat.le_of_ble_eq_true rfl) dX7_addPeering_72 ⟨Nat.le_of_ble_eq_true rfl, Nat.le_of_ble_eq_true rfl⟩) (fun H locs hw => ?_)
      refine lv_iconst (v := 1) hx hb dX7_addPeering_75 (by decide) ?_
      refine lv_isub hx hb dX7_addPeering_76 ?_
      exact vx_ret (z_iret (wf := fun (u : va_W × zLs) => zQ E (X ++ u.1) u.2) Cx hr rfl (Nat.le_of_ble_eq_true rfl) (Nat.le_of_ble_eq_true rfl) (Y ++ [(q, Sum.inr (6, [.ref oa, .ref ob]))], va_up C q3 (some (ps ++ [q]))) hw ⟨k, j, ⟨hk, hj, by rw [← nlen]; exact hbk, by rw [← nlen]; exact hbj, c_15, by rw [← plen]; exact c_lt⟩, hR.addP hyk hyj c_lt, z_len1 ps q plen⟩ dX7_addPeering_77)
    · skip
      have c_ge : 6 ≤ (vP V).length := by
        rw [← plen]
        exact Nat.not_lt.mp (fun h => c_37 ((nI_ltI (by omega) (by omega)).mpr h))
      exact z_throw (is := 109) Cx hl0 ht hw (List.mem_of_getElem? (i := 9) rfl) (by decide) (List.mem_of_getElem? (i := 3) rfl) (List.mem_of_getElem? (i := 4) rfl) (fun _ h => List.mem_cons_of_mem _ (List.mem_append_left _ (List.mem_append_right _ (h)))) (by decide +kernel) (by decide +kernel) (by decide +kernel) hl.1 dX7_addPeering_40 dX7_addPeering_43 dX7_addPeering_44 dX7_addPeering_46 dX7_addPeering_49 (Nat.le_of_ble_eq_true rfl) (Nat.le_of_ble_eq_true rfl) (Nat.le_of_ble_eq_true rfl) (Nat.le_of_ble_eq_true rfl) (Or.inr (Or.inr ⟨rfl, ⟨⟨k, by rw [← nlen]; exact hbk, hk⟩, ⟨j, by rw [← nlen]; exact hbj, hj⟩⟩, c_15, c_ge⟩)) (fun _ h => h) (Nat.le_of_ble_eq_true rfl) (Nat.le_of_ble_eq_true rfl)
  · skip
    exact z_throw (is := 107) Cx hl0 ht hw (List.mem_of_getElem? (i := 8) rfl) (by decide) (List.mem_of_getElem? (i := 1) rfl) (List.mem_of_getElem? (i := 2) rfl) (fun _ h => List.mem_cons_of_mem _ (List.mem_append_left _ (List.mem_append_left _ (List.mem_append_right _ (h))))) (by decide +kernel) (by decide +kernel) (by decide +kernel) hl.1 dX7_addPeering_18 dX7_addPeering_21 dX7_addPeering_22 dX7_addPeering_24 dX7_addPeering_27 (Nat.le_of_ble_eq_true rfl) (Nat.le_of_ble_eq_true rfl) (Nat.le_of_ble_eq_true rfl) (Nat.le_of_ble_eq_true rfl) (Or.inr (Or.inl ⟨rfl, ⟨⟨k, by rw [← nlen]; exact hbk, hk⟩, ⟨j, by rw [← nlen]; exact hbj, hj⟩⟩, c_15⟩)) (fun _ h => h) (Nat.le_of_ble_eq_true rfl) (Nat.le_of_ble_eq_true rfl)

set_option maxRecDepth 100000 in
set_option maxHeartbeats 4000000 in
/-- addGroup -/
theorem c_X7_addGroup (E : zG) (l : Launch) (hl0 : l.stackTraces = false) (X Y : va_W) (C : zLs) (x : Nat) (V : zCl) (hrc : zRC Y C x V)  : vx_Met l yX7_addGroup wsX7_addGroup (zR 8 20 200) (zPre E [.ref x] (zQ E (X ++ Y) C)) (va_Qi (fun r (u : va_W × zLs) => ((vG V).length < 6) ∧ zRC u.1 u.2 x (vN V, vS V, vH V, vP V, vG V ++ [[]]) ∧ r = nI (vG V).length) (fun u tt => zQ E (X ++ u.1) u.2 tt.heap) (eA E)) (zX E (zQ E (X ++ Y) C) (fun nm => nm = zISE ∧ 6 ≤ (vG V).length)) 20 200 (eA E) := by
  refine zx_of (cc := cX7_addGroup) (maxL := 1) (ret := (some .int)) (by decide) rfl rfl (Nat.le_of_ble_eq_true rfl) ?_
  intro p e s m below meth c ls ht Cx hr hnm hw hl
  have hx := Cx.1.1
  have hb := Cx.1.2.1
  obtain ⟨q0, q1, q2, q3, q4, ns, ss, hs, ps, gs, ro, rw, hR⟩ := hrc
  have hCV := zQ.V hw.1
  have hX := hR.grow (fun _ h => List.mem_append_right X h)
  have hR2 := hX
  obtain ⟨hx0, ⟨c0, c1, c2, c3, c4⟩, ⟨z0, z1, z2, z3, z4⟩, ⟨n0, n1, n2, n4⟩, -, l0, l1, l2, l3, l4⟩ := hR2
  have nlen : ns.length = (vN V).length := z0.1
  have slen : ss.length = (vS V).length := z1.1
  have hlen : hs.length = (vH V).length := z2.1
  have plen : ps.length = (vP V).length := z3.1
  have glen : gs.length = (vG V).length := z4.1
  have hR3 := hR
  obtain ⟨-, -, ⟨y0, y1, y2, y3, y4⟩, -⟩ := hR3
  have hl : lv_has ls 1 [(0, .ref x)] := hl
  refine lv_aload_n hx hb dX7_addGroup_0 rfl (lv_at hl 0 rfl) ?_
  refine z_get Cx hw (T := TX7) (N := 5) (ci := 10) (fun _ h => List.mem_cons_of_mem _ (List.mem_append_left _ (List.mem_append_left _ (List.mem_append_left _ (List.mem_append_right _ (h)))))) hx0 rfl 4 (by decide) (List.mem_of_getElem? (i := 3) rfl) rfl rfl dX7_addGroup_1 ?_
  refine z_goe hw.2 (z_runV Cx hw (c_al_size E l _ _ q4 gs c4) (cwV 0 Cx.1.2.2.2.2 gX7_addGroup_Jx4a65c_size_8abf5 rfl rfl rfl (by decide +kernel) ⟨Nat.le_of_ble_eq_true rfl, Nat.le_of_ble_eq_true rfl⟩) (z_recvL Cx hw c4) rfl hl.1 rfl (Nat.le_of_ble_eq_true rfl) dX7_addGroup_4 ⟨Nat.le_of_ble_eq_true rfl, Nat.le_of_ble_eq_true rfl⟩) (fun H locs hw => ?_)
  refine lv_bipush (v := nI 6) hx hb dX7_addGroup_7 rfl ?_
  refine lv_icmp_lt (tgt := 22) hx hb dX7_addGroup_9 (by decide) (fun c_9 => ?_) (fun c_9 => ?_)
  · skip
    have c_lt : gs.length < 6 := (nI_ltI (by omega) (by omega)).mp c_9
    refine lv_aload_n hx hb dX7_addGroup_22 rfl (lv_at hl 0 rfl) ?_
    refine z_get Cx hw (T := TX7) (N := 5) (ci := 10) (fun _ h => List.mem_cons_of_mem _ (List.mem_append_left _ (List.mem_append_left _ (List.mem_append_left _ (List.mem_append_right _ (h)))))) hx0 rfl 4 (by decide) (List.mem_of_getElem? (i := 3) rfl) rfl rfl dX7_addGroup_23 ?_
    refine z_new Cx hw (T := TX1) (N := 1) (ci := 4) (fs := [.null]) (fun _ h => List.mem_cons_of_mem _ (List.mem_append_left _ (List.mem_append_left _ (List.mem_append_right _ (h))))) tyX1 tyX1_ok (List.mem_of_getElem? (i := 4) rfl) (List.mem_of_getElem? (i := 5) rfl) (List.mem_of_getElem? (i := 6) rfl) rfl (fun j hj => by rcases (show j = 0 by omega) with rfl; rfl) (Nat.le_of_ble_eq_true rfl) (Nat.le_of_ble_eq_true rfl) dX7_addGroup_26 (fun q H hfr hw => ?_)
    refine lv_dup hx hb dX7_addGroup_29 rfl ?_
    refine z_gov (wf := fun (v : Nat) => zQ E (X ++ (Y ++ [(q, Sum.inr (4, [.ref v]))])) (va_up C v (some []))) hw.2 (z_runI Cx hw (c_X1_init E l X Y C q (fun x h => hfr x (List.mem_append_right X h))) (cwI 0 Cx.1.2.2.2.2 gX7_addGroup_X1_init rfl rfl rfl (Cx.1.2.2.2.2 (.initialized RX1) (List.mem_of_getElem? (i := 6) rfl)) (Cx.1.2.2.2.2 (.methodLink RX7 118 yX1_init) (List.mem_of_getElem? (i := 13) rfl)) (Cx.1.2.2.2.2 (.instanceMethod yX1_init) (List.mem_of_getElem? (i := 14) rfl)) rfl (by decide +kernel) ⟨Nat.le_of_ble_eq_true rfl, Nat.le_of_ble_eq_true rfl⟩)  rfl hl.1 rfl (Nat.le_of_ble_eq_true rfl) dX7_addGroup_30 ⟨Nat.le_of_ble_eq_true rfl, Nat.le_of_ble_eq_true rfl⟩) (fun v H locs hv hw => ?_)
    have c5 : va_up C v (some []) q4 = some gs := z_upC hv _ _ c4
    refine z_goe hw.2 (z_runV Cx hw (c_al_add E l _ _ q4 gs c5 q ⟨4, _, z_inq, by decide, by decide⟩ (by omega)) (cwV 1 Cx.1.2.2.2.2 gX7_addGroup_Jx4a65c_add_9ea2d rfl rfl rfl (by decide +kernel) ⟨Nat.le_of_ble_eq_true rfl, Nat.le_of_ble_eq_true rfl⟩) (z_recvL Cx hw c5) rfl hl.1 rfl (Nat.le_of_ble_eq_true rfl) dX7_addGroup_33 ⟨Nat.le_of_ble_eq_true rfl, Nat.le_of_ble_eq_true rfl⟩) (fun H locs hw => ?_)
    refine lv_pop hx hb dX7_addGroup_36 rfl ?_
    refine lv_aload_n hx hb dX7_addGroup_37 rfl (lv_at hl 0 rfl) ?_
    refine z_get Cx hw (T := TX7) (N := 5) (ci := 10) (fun _ h => List.mem_cons_of_mem _ (List.mem_append_left _ (List.mem_append_left _ (List.mem_append_left _ (List.mem_append_right _ (h)))))) (z_in1 hx0) rfl 4 (by decide) (List.mem_of_getElem? (i := 3) rfl) rfl rfl dX7_addGroup_38 ?_
    refine z_goe hw.2 (z_runV Cx hw (c_al_size E l _ _ q4 _ (va_up_self _ _ _)) (cwV 0 Cx.1.2.2.2.2 gX7_addGroup_Jx4a65c_size_8abf5 rfl rfl rfl (by decide +kernel) ⟨Nat.le_of_ble_eq_true rfl, Nat.le_of_ble_eq_true rfl⟩) (z_recvL Cx hw (va_up_self _ _ _)) rfl hl.1 rfl (Nat.le_of_ble_eq_true rfl) dX7_addGroup_41 ⟨Nat.le_of_ble_eq_true rfl, Nat.le_of_ble_eq_true rfl⟩) (fun H locs hw => ?_)
    refine lv_iconst (v := 1) hx hb dX7_addGroup_44 (by decide) ?_
    refine lv_isub hx hb dX7_addGroup_45 ?_
    exact vx_ret (z_iret (wf := fun (u : va_W × zLs) => zQ E (X ++ u.1) u.2) Cx hr rfl (Nat.le_of_ble_eq_true rfl) (Nat.le_of_ble_eq_true rfl) (Y ++ [(q, Sum.inr (4, [.ref v]))], va_up (va_up C v (some [])) q4 (some (gs ++ [q]))) hw ⟨by rw [← glen]; exact c_lt, hR.addG hv (fun x h => hfr x (List.mem_append_right X h)) c_lt, z_len1 gs q glen⟩ dX7_addGroup_46)
  · skip
    have c_ge : 6 ≤ (vG V).length := by
      rw [← glen]
      exact Nat.not_lt.mp (fun h => c_9 ((nI_ltI (by omega) (by omega)).mpr h))
    exact z_throw (is := 114) Cx hl0 ht hw (List.mem_of_getElem? (i := 10) rfl) (by decide) (List.mem_of_getElem? (i := 1) rfl) (List.mem_of_getElem? (i := 2) rfl) (fun _ h => List.mem_cons_of_mem _ (List.mem_append_right _ (h))) (by decide +kernel) (by decide +kernel) (by decide +kernel) hl.1 dX7_addGroup_12 dX7_addGroup_15 dX7_addGroup_16 dX7_addGroup_18 dX7_addGroup_21 (Nat.le_of_ble_eq_true rfl) (Nat.le_of_ble_eq_true rfl) (Nat.le_of_ble_eq_true rfl) (Nat.le_of_ble_eq_true rfl) ⟨rfl, c_ge⟩ (fun _ h => h) (Nat.le_of_ble_eq_true rfl) (Nat.le_of_ble_eq_true rfl)


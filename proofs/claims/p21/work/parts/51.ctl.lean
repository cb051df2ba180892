set_option maxRecDepth 100000 in
set_option maxHeartbeats 4000000 in
/-- Group() -/
theorem c_X1_init (E : zG) (l : Launch) (X Y : va_W) (C : zLs) (q : Nat) (hfr : ∀ x ∈ Y, x.1 ≠ q)  : Met l yX1_init wsX1_init (zR 4 1 3) (zPre E [.ref q] (zQ E (X ++ (Y ++ [(q, Sum.inr (4, [.null]))])) C)) (va_Qv (fun (u : Nat) => C u = none) (fun u t => zQ E (X ++ (Y ++ [(q, Sum.inr (4, [.ref u]))])) (va_up C u (some [])) t.heap) (eA E)) 1 3 (eA E) := by
  refine z_of (cc := cX1_init) (maxL := 1) (ret := none) (by decide) rfl rfl (Nat.le_of_ble_eq_true rfl) ?_
  intro p e s m below meth c ls Cx hr hnm hw hl
  have hx := Cx.1.1
  have hb := Cx.1.2.1
  have hl : lv_has ls 1 [(0, .ref q)] := hl
  refine lv_aload_n hx hb dX1_init_0 rfl (lv_at hl 0 rfl) ?_
  refine W.objInit hx hb Cx.1.2.2.2.1 (Cx.1.2.2.2.2 _ (List.mem_of_getElem? (i := 1) rfl)) (Cx.1.2.2.2.2 (.instanceMethod objectInit) (List.mem_of_getElem? (i := 2) rfl)) (Cx.1.2.2.2.2 (.code objectInit ⟨#[0xb1]⟩ 1 none) (List.mem_of_getElem? (i := 3) rfl)) rfl (hl.1.trans Cx.1.2.2.1.symm) rfl dX1_init_1 (Nat.le_of_ble_eq_true rfl) (Nat.le_of_ble_eq_true rfl) ?_
  refine W.eq (g2 := F0 m 4 ls _) rfl ?_
  refine lv_aload_n hx hb dX1_init_4 rfl (lv_at hl 0 rfl) ?_
  refine z_newL Cx hw (index := 7) (fun _ h => List.mem_cons_of_mem _ (List.mem_append_left _ (List.mem_append_right _ (h)))) (List.mem_of_getElem? (i := 4) rfl) (List.mem_of_getElem? (i := 5) rfl) (List.mem_of_getElem? (i := 6) rfl) (Nat.le_of_ble_eq_true rfl) (Nat.le_of_ble_eq_true rfl) dX1_init_5 (fun q1 H hC_q1 hq_q1 hw => ?_)
  refine lv_dup hx hb dX1_init_8 rfl ?_
  refine z_goev hw.2 (z_runI Cx hw (c_al_init E l _ _ q1) (cwI 0 Cx.1.2.2.2.2 gX1_init_Jx4a65c_init_da8c8 rfl rfl rfl (Cx.1.2.2.2.2 (.initialized RJx4a65c) (List.mem_of_getElem? (i := 6) rfl)) (Cx.1.2.2.2.2 (.methodLink RX1 9 yJx4a65c_init_da8c8) (List.mem_of_getElem? (i := 8) rfl)) (Cx.1.2.2.2.2 (.instanceMethod yJx4a65c_init_da8c8) (List.mem_of_getElem? (i := 9) rfl)) rfl (by decide +kernel) ⟨Nat.le_of_ble_eq_true rfl, Nat.le_of_ble_eq_true rfl⟩)  rfl hl.1 rfl (Nat.le_of_ble_eq_true rfl) dX1_init_9 ⟨Nat.le_of_ble_eq_true rfl, Nat.le_of_ble_eq_true rfl⟩) (fun H locs hw => ?_)
  skip
  refine z_putF Cx (X := X) (Y := Y ++ [(q, Sum.inr (4, [.null]))]) hw (T := TX1) (N := 1) (ci := 4) (ty := .object "java/util/ArrayList") (fun _ h => List.mem_cons_of_mem _ (List.mem_append_right _ (h))) tyX1 tyX1_ok nmX1 z_m1 rfl 0 (by decide) (List.mem_of_getElem? (i := 7) rfl) rfl rfl hnm rfl (by decide +kernel) rfl rfl (Nat.le_of_ble_eq_true rfl) dX1_init_12 (fun H locs hw2 => ?_)
  have hw : zHA E (X ++ (Y ++ [(q, Sum.inr (4, [.ref q1]))])) (va_up C q1 (some [])) s H locs := by rw [zset_last hfr] at hw2; exact hw2
  refine z_vret (mc := 1) (ms := 3) (post := fun (u : Nat) => C u = none) (wf := (fun (u : Nat) => zQ E (X ++ (Y ++ [(q, Sum.inr (4, [.ref u]))])) (va_up C u (some [])))) Cx hr ?_ ?_ q1 hw hC_q1 dX1_init_15
  · exact Nat.le_of_ble_eq_true rfl
  · exact Nat.le_of_ble_eq_true rfl

set_option maxRecDepth 100000 in
set_option maxHeartbeats 4000000 in
/-- Subnet() -/
theorem c_X6_init (E : zG) (l : Launch) (X Y : va_W) (C : zLs) (q : Nat) (hfr : ∀ x ∈ Y, x.1 ≠ q) (nw bk : Nat) : Met l yX6_init wsX6_init (zR 4 2 6) (zPre E [.ref q, .ref nw, .ref bk] (zQ E (X ++ (Y ++ [(q, Sum.inr (9, [.null, .null, .null, .null]))])) C)) (va_Qv (fun (u : Nat × Nat) => C u.1 = none ∧ (va_up C u.1 (some [])) u.2 = none) (fun u t => zQ E (X ++ (Y ++ [(q, Sum.inr (9, [.ref nw, .ref bk, .ref u.1, .ref u.2]))])) (va_up (va_up C u.1 (some [])) u.2 (some [])) t.heap) (eA E)) 2 6 (eA E) := by
  refine z_of (cc := cX6_init) (maxL := 3) (ret := none) (by decide) rfl rfl (Nat.le_of_ble_eq_true rfl) ?_
  intro p e s m below meth c ls Cx hr hnm hw hl
  have hx := Cx.1.1
  have hb := Cx.1.2.1
  have hl : lv_has ls 3 [(0, .ref q), (1, .ref nw), (2, .ref bk)] := hl
  refine lv_aload_n hx hb dX6_init_0 rfl (lv_at hl 0 rfl) ?_
  refine W.objInit hx hb Cx.1.2.2.2.1 (Cx.1.2.2.2.2 _ (List.mem_of_getElem? (i := 1) rfl)) (Cx.1.2.2.2.2 (.instanceMethod objectInit) (List.mem_of_getElem? (i := 2) rfl)) (Cx.1.2.2.2.2 (.code objectInit ⟨#[0xb1]⟩ 1 none) (List.mem_of_getElem? (i := 3) rfl)) rfl (hl.1.trans Cx.1.2.2.1.symm) rfl dX6_init_1 (Nat.le_of_ble_eq_true rfl) (Nat.le_of_ble_eq_true rfl) ?_
  refine W.eq (g2 := F0 m 4 ls _) rfl ?_
  refine lv_aload_n hx hb dX6_init_4 rfl (lv_at hl 0 rfl) ?_
  refine lv_aload_n hx hb dX6_init_5 rfl (lv_at hl 1 rfl) ?_
  refine z_putF Cx (X := X) (Y := Y ++ [(q, Sum.inr (9, [.null, .null, .null, .null]))]) hw (T := TX6) (N := 4) (ci := 9) (ty := .object "CloudPaths$Block") (fun _ h => List.mem_cons_of_mem _ (List.mem_append_left _ (List.mem_append_right _ (h)))) tyX6 tyX6_ok nmX6 z_m1 rfl 0 (by decide) (List.mem_of_getElem? (i := 4) rfl) rfl rfl hnm rfl (by decide +kernel) rfl rfl (Nat.le_of_ble_eq_true rfl) dX6_init_6 (fun H locs hw2 => ?_)
  have hw : zHA E (X ++ (Y ++ [(q, Sum.inr (9, [.ref nw, .null, .null, .null]))])) C s H locs := by rw [zset_last hfr] at hw2; exact hw2
  refine lv_aload_n hx hb dX6_init_9 rfl (lv_at hl 0 rfl) ?_
  refine lv_aload_n hx hb dX6_init_10 rfl (lv_at hl 2 rfl) ?_
  refine z_putF Cx (X := X) (Y := Y ++ [(q, Sum.inr (9, [.ref nw, .null, .null, .null]))]) hw (T := TX6) (N := 4) (ci := 9) (ty := .object "CloudPaths$Block") (fun _ h => List.mem_cons_of_mem _ (List.mem_append_left _ (List.mem_append_right _ (h)))) tyX6 tyX6_ok nmX6 z_m1 rfl 1 (by decide) (List.mem_of_getElem? (i := 5) rfl) rfl rfl hnm rfl (by decide +kernel) rfl rfl (Nat.le_of_ble_eq_true rfl) dX6_init_11 (fun H locs hw2 => ?_)
  have hw : zHA E (X ++ (Y ++ [(q, Sum.inr (9, [.ref nw, .ref bk, .null, .null]))])) C s H locs := by rw [zset_last hfr] at hw2; exact hw2
  refine lv_aload_n hx hb dX6_init_14 rfl (lv_at hl 0 rfl) ?_
  refine z_newL Cx hw (index := 18) (fun _ h => List.mem_cons_of_mem _ (List.mem_append_right _ (h))) (List.mem_of_getElem? (i := 6) rfl) (List.mem_of_getElem? (i := 7) rfl) (List.mem_of_getElem? (i := 8) rfl) (Nat.le_of_ble_eq_true rfl) (Nat.le_of_ble_eq_true rfl) dX6_init_15 (fun q1 H hC_q1 hq_q1 hw => ?_)
  refine lv_dup hx hb dX6_init_18 rfl ?_
  refine z_goev hw.2 (z_runI Cx hw (c_al_init E l _ _ q1) (cwI 0 Cx.1.2.2.2.2 gX6_init_Jx4a65c_init_da8c8 rfl rfl rfl (Cx.1.2.2.2.2 (.initialized RJx4a65c) (List.mem_of_getElem? (i := 8) rfl)) (Cx.1.2.2.2.2 (.methodLink RX6 20 yJx4a65c_init_da8c8) (List.mem_of_getElem? (i := 11) rfl)) (Cx.1.2.2.2.2 (.instanceMethod yJx4a65c_init_da8c8) (List.mem_of_getElem? (i := 12) rfl)) rfl (by decide +kernel) ⟨Nat.le_of_ble_eq_true rfl, Nat.le_of_ble_eq_true rfl⟩)  rfl hl.1 rfl (Nat.le_of_ble_eq_true rfl) dX6_init_19 ⟨Nat.le_of_ble_eq_true rfl, Nat.le_of_ble_eq_true rfl⟩) (fun H locs hw => ?_)
  skip
  refine z_putF Cx (X := X) (Y := Y ++ [(q, Sum.inr (9, [.ref nw, .ref bk, .null, .null]))]) hw (T := TX6) (N := 4) (ci := 9) (ty := .object "java/util/ArrayList") (fun _ h => List.mem_cons_of_mem _ (List.mem_append_left _ (List.mem_append_right _ (h)))) tyX6 tyX6_ok nmX6 z_m1 rfl 2 (by decide) (List.mem_of_getElem? (i := 9) rfl) rfl rfl hnm rfl (by decide +kernel) rfl rfl (Nat.le_of_ble_eq_true rfl) dX6_init_22 (fun H locs hw2 => ?_)
  have hw : zHA E (X ++ (Y ++ [(q, Sum.inr (9, [.ref nw, .ref bk, .ref q1, .null]))])) (va_up C q1 (some [])) s H locs := by rw [zset_last hfr] at hw2; exact hw2
  refine lv_aload_n hx hb dX6_init_25 rfl (lv_at hl 0 rfl) ?_
  refine z_newL Cx hw (index := 18) (fun _ h => List.mem_cons_of_mem _ (List.mem_append_right _ (h))) (List.mem_of_getElem? (i := 6) rfl) (List.mem_of_getElem? (i := 7) rfl) (List.mem_of_getElem? (i := 8) rfl) (Nat.le_of_ble_eq_true rfl) (Nat.le_of_ble_eq_true rfl) dX6_init_26 (fun q2 H hC_q2 hq_q2 hw => ?_)
  refine lv_dup hx hb dX6_init_29 rfl ?_
  refine z_goev hw.2 (z_runI Cx hw (c_al_init E l _ _ q2) (cwI 0 Cx.1.2.2.2.2 gX6_init_Jx4a65c_init_da8c8 rfl rfl rfl (Cx.1.2.2.2.2 (.initialized RJx4a65c) (List.mem_of_getElem? (i := 8) rfl)) (Cx.1.2.2.2.2 (.methodLink RX6 20 yJx4a65c_init_da8c8) (List.mem_of_getElem? (i := 11) rfl)) (Cx.1.2.2.2.2 (.instanceMethod yJx4a65c_init_da8c8) (List.mem_of_getElem? (i := 12) rfl)) rfl (by decide +kernel) ⟨Nat.le_of_ble_eq_true rfl, Nat.le_of_ble_eq_true rfl⟩)  rfl hl.1 rfl (Nat.le_of_ble_eq_true rfl) dX6_init_30 ⟨Nat.le_of_ble_eq_true rfl, Nat.le_of_ble_eq_true rfl⟩) (fun H locs hw => ?_)
  skip
  refine z_putF Cx (X := X) (Y := Y ++ [(q, Sum.inr (9, [.ref nw, .ref bk, .ref q1, .null]))]) hw (T := TX6) (N := 4) (ci := 9) (ty := .object "java/util/ArrayList") (fun _ h => List.mem_cons_of_mem _ (List.mem_append_left _ (List.mem_append_right _ (h)))) tyX6 tyX6_ok nmX6 z_m1 rfl 3 (by decide) (List.mem_of_getElem? (i := 10) rfl) rfl rfl hnm rfl (by decide +kernel) rfl rfl (Nat.le_of_ble_eq_true rfl) dX6_init_33 (fun H locs hw2 => ?_)
  have hw : zHA E (X ++ (Y ++ [(q, Sum.inr (9, [.ref nw, .ref bk, .ref q1, .ref q2]))])) (va_up (va_up C q1 (some [])) q2 (some [])) s H locs := by rw [zset_last hfr] at hw2; exact hw2
  refine z_vret (mc := 2) (ms := 6) (post := fun (u : Nat × Nat) => C u.1 = none ∧ (va_up C u.1 (some [])) u.2 = none) (wf := (fun (u : Nat × Nat) => zQ E (X ++ (Y ++ [(q, Sum.inr (9, [.ref nw, .ref bk, .ref u.1, .ref u.2]))])) (va_up (va_up C u.1 (some [])) u.2 (some [])))) Cx hr ?_ ?_ (q1, q2) hw ⟨hC_q1, hC_q2⟩ dX6_init_36
  · exact Nat.le_of_ble_eq_true rfl
  · exact Nat.le_of_ble_eq_true rfl

set_option maxRecDepth 100000 in
set_option maxHeartbeats 4000000 in
/-- CloudPaths() -/
theorem c_X7_init (E : zG) (l : Launch) (X Y : va_W) (C : zLs) (q : Nat) (hfr : ∀ x ∈ Y, x.1 ≠ q)  : Met l yX7_init wsX7_init (zR 4 5 15) (zPre E [.ref q] (zQ E (X ++ (Y ++ [(q, Sum.inr (10, [.null, .null, .null, .null, .null]))])) C)) (va_Qv (fun (u : Nat × Nat × Nat × Nat × Nat) => C u.1 = none ∧ (va_up C u.1 (some [])) u.2.1 = none ∧ (va_up (va_up C u.1 (some [])) u.2.1 (some [])) u.2.2.1 = none ∧ (va_up (va_up (va_up C u.1 (some [])) u.2.1 (some [])) u.2.2.1 (some [])) u.2.2.2.1 = none ∧ (va_up (va_up (va_up (va_up C u.1 (some [])) u.2.1 (some [])) u.2.2.1 (some [])) u.2.2.2.1 (some [])) u.2.2.2.2 = none) (fun u t => zQ E (X ++ (Y ++ [(q, Sum.inr (10, [.ref u.1, .ref u.2.1, .ref u.2.2.1, .ref u.2.2.2.1, .ref u.2.2.2.2]))])) (va_up (va_up (va_up (va_up (va_up C u.1 (some [])) u.2.1 (some [])) u.2.2.1 (some [])) u.2.2.2.1 (some [])) u.2.2.2.2 (some [])) t.heap) (eA E)) 5 15 (eA E) := by
  refine z_of (cc := cX7_init) (maxL := 1) (ret := none) (by decide) rfl rfl (Nat.le_of_ble_eq_true rfl) ?_
  intro p e s m below meth c ls Cx hr hnm hw hl
  have hx := Cx.1.1
  have hb := Cx.1.2.1
  have hl : lv_has ls 1 [(0, .ref q)] := hl
  refine lv_aload_n hx hb dX7_init_0 rfl (lv_at hl 0 rfl) ?_
  refine W.objInit hx hb Cx.1.2.2.2.1 (Cx.1.2.2.2.2 _ (List.mem_of_getElem? (i := 1) rfl)) (Cx.1.2.2.2.2 (.instanceMethod objectInit) (List.mem_of_getElem? (i := 2) rfl)) (Cx.1.2.2.2.2 (.code objectInit ⟨#[0xb1]⟩ 1 none) (List.mem_of_getElem? (i := 3) rfl)) rfl (hl.1.trans Cx.1.2.2.1.symm) rfl dX7_init_1 (Nat.le_of_ble_eq_true rfl) (Nat.le_of_ble_eq_true rfl) ?_
  refine W.eq (g2 := F0 m 4 ls _) rfl ?_
  refine lv_aload_n hx hb dX7_init_4 rfl (lv_at hl 0 rfl) ?_
  refine z_newL Cx hw (index := 9) (fun _ h => List.mem_cons_of_mem _ (List.mem_append_left _ (List.mem_append_right _ (h)))) (List.mem_of_getElem? (i := 4) rfl) (List.mem_of_getElem? (i := 5) rfl) (List.mem_of_getElem? (i := 6) rfl) (Nat.le_of_ble_eq_true rfl) (Nat.le_of_ble_eq_true rfl) dX7_init_5 (fun q1 H hC_q1 hq_q1 hw => ?_)
  refine lv_dup hx hb dX7_init_8 rfl ?_
  refine z_goev hw.2 (z_runI Cx hw (c_al_init E l _ _ q1) (cwI 0 Cx.1.2.2.2.2 gX7_init_Jx4a65c_init_da8c8 rfl rfl rfl (Cx.1.2.2.2.2 (.initialized RJx4a65c) (List.mem_of_getElem? (i := 6) rfl)) (Cx.1.2.2.2.2 (.methodLink RX7 11 yJx4a65c_init_da8c8) (List.mem_of_getElem? (i := 12) rfl)) (Cx.1.2.2.2.2 (.instanceMethod yJx4a65c_init_da8c8) (List.mem_of_getElem? (i := 13) rfl)) rfl (by decide +kernel) ⟨Nat.le_of_ble_eq_true rfl, Nat.le_of_ble_eq_true rfl⟩)  rfl hl.1 rfl (Nat.le_of_ble_eq_true rfl) dX7_init_9 ⟨Nat.le_of_ble_eq_true rfl, Nat.le_of_ble_eq_true rfl⟩) (fun H locs hw => ?_)
  skip
  refine z_putF Cx (X := X) (Y := Y ++ [(q, Sum.inr (10, [.null, .null, .null, .null, .null]))]) hw (T := TX7) (N := 5) (ci := 10) (ty := .object "java/util/ArrayList") (fun _ h => List.mem_cons_of_mem _ (List.mem_append_right _ (h))) tyX7 tyX7_ok nmX7 z_m1 rfl 0 (by decide) (List.mem_of_getElem? (i := 7) rfl) rfl rfl hnm rfl (by decide +kernel) rfl rfl (Nat.le_of_ble_eq_true rfl) dX7_init_12 (fun H locs hw2 => ?_)
  have hw : zHA E (X ++ (Y ++ [(q, Sum.inr (10, [.ref q1, .null, .null, .null, .null]))])) (va_up C q1 (some [])) s H locs := by rw [zset_last hfr] at hw2; exact hw2
  refine lv_aload_n hx hb dX7_init_15 rfl (lv_at hl 0 rfl) ?_
  refine z_newL Cx hw (index := 9) (fun _ h => List.mem_cons_of_mem _ (List.mem_append_left _ (List.mem_append_right _ (h)))) (List.mem_of_getElem? (i := 4) rfl) (List.mem_of_getElem? (i := 5) rfl) (List.mem_of_getElem? (i := 6) rfl) (Nat.le_of_ble_eq_true rfl) (Nat.le_of_ble_eq_true rfl) dX7_init_16 (fun q2 H hC_q2 hq_q2 hw => ?_)
  refine lv_dup hx hb dX7_init_19 rfl ?_
  refine z_goev hw.2 (z_runI Cx hw (c_al_init E l _ _ q2) (cwI 0 Cx.1.2.2.2.2 gX7_init_Jx4a65c_init_da8c8 rfl rfl rfl (Cx.1.2.2.2.2 (.initialized RJx4a65c) (List.mem_of_getElem? (i := 6) rfl)) (Cx.1.2.2.2.2 (.methodLink RX7 11 yJx4a65c_init_da8c8) (List.mem_of_getElem? (i := 12) rfl)) (Cx.1.2.2.2.2 (.instanceMethod yJx4a65c_init_da8c8) (List.mem_of_getElem? (i := 13) rfl)) rfl (by decide +kernel) ⟨Nat.le_of_ble_eq_true rfl, Nat.le_of_ble_eq_true rfl⟩)  rfl hl.1 rfl (Nat.le_of_ble_eq_true rfl) dX7_init_20 ⟨Nat.le_of_ble_eq_true rfl, Nat.le_of_ble_eq_true rfl⟩) (fun H locs hw => ?_)
  skip
  refine z_putF Cx (X := X) (Y := Y ++ [(q, Sum.inr (10, [.ref q1, .null, .null, .null, .null]))]) hw (T := TX7) (N := 5) (ci := 10) (ty := .object "java/util/ArrayList") (fun _ h => List.mem_cons_of_mem _ (List.mem_append_right _ (h))) tyX7 tyX7_ok nmX7 z_m1 rfl 1 (by decide) (List.mem_of_getElem? (i := 8) rfl) rfl rfl hnm rfl (by decide +kernel) rfl rfl (Nat.le_of_ble_eq_true rfl) dX7_init_23 (fun H locs hw2 => ?_)
  have hw : zHA E (X ++ (Y ++ [(q, Sum.inr (10, [.ref q1, .ref q2, .null, .null, .null]))])) (va_up (va_up C q1 (some [])) q2 (some [])) s H locs := by rw [zset_last hfr] at hw2; exact hw2
  refine lv_aload_n hx hb dX7_init_26 rfl (lv_at hl 0 rfl) ?_
  refine z_newL Cx hw (index := 9) (fun _ h => List.mem_cons_of_mem _ (List.mem_append_left _ (List.mem_append_right _ (h)))) (List.mem_of_getElem? (i := 4) rfl) (List.mem_of_getElem? (i := 5) rfl) (List.mem_of_getElem? (i := 6) rfl) (Nat.le_of_ble_eq_true rfl) (Nat.le_of_ble_eq_true rfl) dX7_init_27 (fun q3 H hC_q3 hq_q3 hw => ?_)
  refine lv_dup hx hb dX7_init_30 rfl ?_
  refine z_goev hw.2 (z_runI Cx hw (c_al_init E l _ _ q3) (cwI 0 Cx.1.2.2.2.2 gX7_init_Jx4a65c_init_da8c8 rfl rfl rfl (Cx.1.2.2.2.2 (.initialized RJx4a65c) (List.mem_of_getElem? (i := 6) rfl)) (Cx.1.2.2.2.2 (.methodLink RX7 11 yJx4a65c_init_da8c8) (List.mem_of_getElem? (i := 12) rfl)) (Cx.1.2.2.2.2 (.instanceMethod yJx4a65c_init_da8c8) (List.mem_of_getElem? (i := 13) rfl)) rfl (by decide +kernel) ⟨Nat.le_of_ble_eq_true rfl, Nat.le_of_ble_eq_true rfl⟩)  rfl hl.1 rfl (Nat.le_of_ble_eq_true rfl) dX7_init_31 ⟨Nat.le_of_ble_eq_true rfl, Nat.le_of_ble_eq_true rfl⟩) (fun H locs hw => ?_)
  skip
  refine z_putF Cx (X := X) (Y := Y ++ [(q, Sum.inr (10, [.ref q1, .ref q2, .null, .null, .null]))]) hw (T := TX7) (N := 5) (ci := 10) (ty := .object "java/util/ArrayList") (fun _ h => List.mem_cons_of_mem _ (List.mem_append_right _ (h))) tyX7 tyX7_ok nmX7 z_m1 rfl 2 (by decide) (List.mem_of_getElem? (i := 9) rfl) rfl rfl hnm rfl (by decide +kernel) rfl rfl (Nat.le_of_ble_eq_true rfl) dX7_init_34 (fun H locs hw2 => ?_)
  have hw : zHA E (X ++ (Y ++ [(q, Sum.inr (10, [.ref q1, .ref q2, .ref q3, .null, .null]))])) (va_up (va_up (va_up C q1 (some [])) q2 (some [])) q3 (some [])) s H locs := by rw [zset_last hfr] at hw2; exact hw2
  refine lv_aload_n hx hb dX7_init_37 rfl (lv_at hl 0 rfl) ?_
  refine z_newL Cx hw (index := 9) (fun _ h => List.mem_cons_of_mem _ (List.mem_append_left _ (List.mem_append_right _ (h)))) (List.mem_of_getElem? (i := 4) rfl) (List.mem_of_getElem? (i := 5) rfl) (List.mem_of_getElem? (i := 6) rfl) (Nat.le_of_ble_eq_true rfl) (Nat.le_of_ble_eq_true rfl) dX7_init_38 (fun q4 H hC_q4 hq_q4 hw => ?_)
  refine lv_dup hx hb dX7_init_41 rfl ?_
  refine z_goev hw.2 (z_runI Cx hw (c_al_init E l _ _ q4) (cwI 0 Cx.1.2.2.2.2 gX7_init_Jx4a65c_init_da8c8 rfl rfl rfl (Cx.1.2.2.2.2 (.initialized RJx4a65c) (List.mem_of_getElem? (i := 6) rfl)) (Cx.1.2.2.2.2 (.methodLink RX7 11 yJx4a65c_init_da8c8) (List.mem_of_getElem? (i := 12) rfl)) (Cx.1.2.2.2.2 (.instanceMethod yJx4a65c_init_da8c8) (List.mem_of_getElem? (i := 13) rfl)) rfl (by decide +kernel) ⟨Nat.le_of_ble_eq_true rfl, Nat.le_of_ble_eq_true rfl⟩)  rfl hl.1 rfl (Nat.le_of_ble_eq_true rfl) dX7_init_42 ⟨Nat.le_of_ble_eq_true rfl, Nat.le_of_ble_eq_true rfl⟩) (fun H locs hw => ?_)
  skip
  refine z_putF Cx (X := X) (Y := Y ++ [(q, Sum.inr (10, [.ref q1, .ref q2, .ref q3, .null, .null]))]) hw (T := TX7) (N := 5) (ci := 10) (ty := .object "java/util/ArrayList") (fun _ h => List.mem_cons_of_mem _ (List.mem_append_right _ (h))) tyX7 tyX7_ok nmX7 z_m1 rfl 3 (by decide) (List.mem_of_getElem? (i := 10) rfl) rfl rfl hnm rfl (by decide +kernel) rfl rfl (Nat.le_of_ble_eq_true rfl) dX7_init_45 (fun H locs hw2 => ?_)
  have hw : zHA E (X ++ (Y ++ [(q, Sum.inr (10, [.ref q1, .ref q2, .ref q3, .ref q4, .null]))])) (va_up (va_up (va_up (va_up C q1 (some [])) q2 (some [])) q3 (some [])) q4 (some [])) s H locs := by rw [zset_last hfr] at hw2; exact hw2
  refine lv_aload_n hx hb dX7_init_48 rfl (lv_at hl 0 rfl) ?_
  refine z_newL Cx hw (index := 9) (fun _ h => List.mem_cons_of_mem _ (List.mem_append_left _ (List.mem_append_right _ (h)))) (List.mem_of_getElem? (i := 4) rfl) (List.mem_of_getElem? (i := 5) rfl) (List.mem_of_getElem? (i := 6) rfl) (Nat.le_of_ble_eq_true rfl) (Nat.le_of_ble_eq_true rfl) dX7_init_49 (fun q5 H hC_q5 hq_q5 hw => ?_)
  refine lv_dup hx hb dX7_init_52 rfl ?_
  refine z_goev hw.2 (z_runI Cx hw (c_al_init E l _ _ q5) (cwI 0 Cx.1.2.2.2.2 gX7_init_Jx4a65c_init_da8c8 rfl rfl rfl (Cx.1.2.2.2.2 (.initialized RJx4a65c) (List.mem_of_getElem? (i := 6) rfl)) (Cx.1.2.2.2.2 (.methodLink RX7 11 yJx4a65c_init_da8c8) (List.mem_of_getElem? (i := 12) rfl)) (Cx.1.2.2.2.2 (.instanceMethod yJx4a65c_init_da8c8) (List.mem_of_getElem? (i := 13) rfl)) rfl (by decide +kernel) ⟨Nat.le_of_ble_eq_true rfl, Nat.le_of_ble_eq_true rfl⟩)  rfl hl.1 rfl (Nat.le_of_ble_eq_true rfl) dX7_init_53 ⟨Nat.le_of_ble_eq_true rfl, Nat.le_of_ble_eq_true rfl⟩) (fun H locs hw => ?_)
  skip
  refine z_putF Cx (X := X) (Y := Y ++ [(q, Sum.inr (10, [.ref q1, .ref q2, .ref q3, .ref q4, .null]))]) hw (T := TX7) (N := 5) (ci := 10) (ty := .object "java/util/ArrayList") (fun _ h => List.mem_cons_of_mem _ (List.mem_append_right _ (h))) tyX7 tyX7_ok nmX7 z_m1 rfl 4 (by decide) (List.mem_of_getElem? (i := 11) rfl) rfl rfl hnm rfl (by decide +kernel) rfl rfl (Nat.le_of_ble_eq_true rfl) dX7_init_56 (fun H locs hw2 => ?_)
  have hw : zHA E (X ++ (Y ++ [(q, Sum.inr (10, [.ref q1, .ref q2, .ref q3, .ref q4, .ref q5]))])) (va_up (va_up (va_up (va_up (va_up C q1 (some [])) q2 (some [])) q3 (some [])) q4 (some [])) q5 (some [])) s H locs := by rw [zset_last hfr] at hw2; exact hw2
  refine z_vret (mc := 5) (ms := 15) (post := fun (u : Nat × Nat × Nat × Nat × Nat) => C u.1 = none ∧ (va_up C u.1 (some [])) u.2.1 = none ∧ (va_up (va_up C u.1 (some [])) u.2.1 (some [])) u.2.2.1 = none ∧ (va_up (va_up (va_up C u.1 (some [])) u.2.1 (some [])) u.2.2.1 (some [])) u.2.2.2.1 = none ∧ (va_up (va_up (va_up (va_up C u.1 (some [])) u.2.1 (some [])) u.2.2.1 (some [])) u.2.2.2.1 (some [])) u.2.2.2.2 = none) (wf := (fun (u : Nat × Nat × Nat × Nat × Nat) => zQ E (X ++ (Y ++ [(q, Sum.inr (10, [.ref u.1, .ref u.2.1, .ref u.2.2.1, .ref u.2.2.2.1, .ref u.2.2.2.2]))])) (va_up (va_up (va_up (va_up (va_up C u.1 (some [])) u.2.1 (some [])) u.2.2.1 (some [])) u.2.2.2.1 (some [])) u.2.2.2.2 (some [])))) Cx hr ?_ ?_ (q1, q2, q3, q4, q5) hw ⟨hC_q1, hC_q2, hC_q3, hC_q4, hC_q5⟩ dX7_init_59
  · exact Nat.le_of_ble_eq_true rfl
  · exact Nat.le_of_ble_eq_true rfl

def zput (gs x b : Int32) : Int32 := if b = 0 then gs &&& ((1 : Int32) <<< (x &&& 31) ^^^ (-1)) else gs ||| (1 : Int32) <<< (x &&& 31)
set_option maxRecDepth 100000 in
set_option maxHeartbeats 4000000 in
/-- putInGroup -/
theorem c_X2_putInGroup (E : zG) (l : Launch) (X Y : va_W) (C : zLs) (a sb : Nat) (ad gs x b : Int32) (h : (a, Sum.inr (5, [.ref sb, .int ad, .int gs])) ∈ Y) : Met l yX2_putInGroup wsX2_putInGroup (zR 0 0 0) (zPre E [.ref a, .int x, .int b] (zQ E (X ++ Y) C)) (zRv E (zQ E (X ++ zset Y a (Sum.inr (5, [.ref sb, .int ad, .int (zput gs x b)]))) C)) 0 0 (eA E) := by
  refine z_of (cc := cX2_putInGroup) (maxL := 3) (ret := none) (by decide) rfl rfl (Nat.le_of_ble_eq_true rfl) ?_
  intro p e s m below meth c ls Cx hr hnm hw hl
  have hx := Cx.1.1
  have hb := Cx.1.2.1
  have hl : lv_has ls 3 [(0, .ref a), (1, .int x), (2, .int b)] := hl
  refine lv_iload_n hx hb dX2_putInGroup_0 rfl (lv_at hl 2 rfl) ?_
  refine lv_if_eq (tgt := 19) hx hb dX2_putInGroup_1 (by decide) (fun c_1 => ?_) (fun c_1 => ?_)
  · skip
    refine lv_aload_n hx hb dX2_putInGroup_19 rfl (lv_at hl 0 rfl) ?_
    refine lv_dup hx hb dX2_putInGroup_20 rfl ?_
    refine z_get Cx hw (T := TX2) (N := 3) (ci := 5) (fun _ h => List.mem_cons_of_mem _ (List.mem_append_right _ (h))) (List.mem_append_right X h) rfl 2 (by decide) (List.mem_of_getElem? (i := 1) rfl) rfl rfl dX2_putInGroup_21 ?_
    refine lv_iconst (v := 1) hx hb dX2_putInGroup_24 (by decide) ?_
    refine lv_iload_n hx hb dX2_putInGroup_25 rfl (lv_at hl 1 rfl) ?_
    refine lv_ishl hx hb dX2_putInGroup_26 ?_
    refine lv_iconst (v := -1) hx hb dX2_putInGroup_27 (by decide) ?_
    refine lv_ixor hx hb dX2_putInGroup_28 ?_
    refine lv_iand hx hb dX2_putInGroup_29 ?_
    refine z_put Cx (X := X) (Y := Y) hw (T := TX2) (N := 3) (ci := 5) (ty := .int) (fun _ h => List.mem_cons_of_mem _ (List.mem_append_right _ (h))) tyX2 tyX2_ok nmX2 h rfl 2 (by decide) (List.mem_of_getElem? (i := 1) rfl) rfl rfl (by decide +kernel) rfl rfl (Nat.le_of_ble_eq_true rfl) dX2_putInGroup_30 (fun H locs hw => ?_)
    have hw3 : zHA E (X ++ zset Y a (Sum.inr (5, [.ref sb, .int ad, .int (zput gs x b)]))) C s H locs := by
      unfold zput
      first
        | (rw [if_pos c_1]; exact hw)
        | (rw [if_neg c_1]; exact hw)
    exact z_ve Cx hr (Nat.le_of_ble_eq_true rfl) (Nat.le_of_ble_eq_true rfl) hw3 dX2_putInGroup_33
  · skip
    refine lv_aload_n hx hb dX2_putInGroup_4 rfl (lv_at hl 0 rfl) ?_
    refine lv_dup hx hb dX2_putInGroup_5 rfl ?_
    refine z_get Cx hw (T := TX2) (N := 3) (ci := 5) (fun _ h => List.mem_cons_of_mem _ (List.mem_append_right _ (h))) (List.mem_append_right X h) rfl 2 (by decide) (List.mem_of_getElem? (i := 1) rfl) rfl rfl dX2_putInGroup_6 ?_
    refine lv_iconst (v := 1) hx hb dX2_putInGroup_9 (by decide) ?_
    refine lv_iload_n hx hb dX2_putInGroup_10 rfl (lv_at hl 1 rfl) ?_
    refine lv_ishl hx hb dX2_putInGroup_11 ?_
    refine lv_ior hx hb dX2_putInGroup_12 ?_
    refine z_put Cx (X := X) (Y := Y) hw (T := TX2) (N := 3) (ci := 5) (ty := .int) (fun _ h => List.mem_cons_of_mem _ (List.mem_append_right _ (h))) tyX2 tyX2_ok nmX2 h rfl 2 (by decide) (List.mem_of_getElem? (i := 1) rfl) rfl rfl (by decide +kernel) rfl rfl (Nat.le_of_ble_eq_true rfl) dX2_putInGroup_13 (fun H locs hw => ?_)
    refine lv_goto (tgt := 33) hx hb dX2_putInGroup_16 (by decide) ?_
    have hw3 : zHA E (X ++ zset Y a (Sum.inr (5, [.ref sb, .int ad, .int (zput gs x b)]))) C s H locs := by
      unfold zput
      first
        | (rw [if_pos c_1]; exact hw)
        | (rw [if_neg c_1]; exact hw)
    exact z_ve Cx hr (Nat.le_of_ble_eq_true rfl) (Nat.le_of_ble_eq_true rfl) hw3 dX2_putInGroup_33

set_option maxRecDepth 100000 in
set_option maxHeartbeats 4000000 in
/-- replaceRoute, away -/
theorem c_replace_rm (E : zG) (l : Launch) (X Y : va_W) (C : zLs) (a nw bk rl rt : Nat) (fs : List Nat) (hs : (a, Sum.inr (9, [.ref nw, .ref bk, .ref rl, .ref rt])) ∈ Y) (hq : C rt = some fs) (i r rb : Nat) (pe0 : Int32) (hi : fs[i]? = some r) (hr0 : (r, Sum.inr (7, [.ref rb, .int pe0])) ∈ Y)  : Met l yX7_replaceRoute wsX7_replaceRoute (zR 4 0 0) (zPre E [.ref a, .int (nI i), .int (-1)] (zQ E (X ++ Y) C)) (zRi E (zQ E (X ++ Y) (va_up C rt (some (fs.eraseIdx i)))) pe0) 0 0 (eA E) := by
  refine z_of (cc := cX7_replaceRoute) (maxL := 5) (ret := (some .int)) (by decide) rfl rfl (Nat.le_of_ble_eq_true rfl) ?_
  intro p e s m below meth c ls Cx hr hnm hw hl
  have hx := Cx.1.1
  have hb := Cx.1.2.1
  have hl : lv_has ls 5 [(0, .ref a), (1, .int (nI i)), (2, .int (-1))] := hl
  refine lv_aload_n hx hb dX7_replaceRoute_0 rfl (lv_at hl 0 rfl) ?_
  refine z_get Cx hw (T := TX6) (N := 4) (ci := 9) (fun _ h => List.mem_cons_of_mem _ (List.mem_append_left _ (List.mem_append_left _ (List.mem_append_right _ (h))))) (List.mem_append_right X hs) rfl 3 (by decide) (List.mem_of_getElem? (i := 1) rfl) rfl rfl dX7_replaceRoute_1 ?_
  refine lv_iload_n hx hb dX7_replaceRoute_4 rfl (lv_at hl 1 rfl) ?_
  refine z_goer hw.2 (z_runV Cx hw (c_al_get E l (X ++ Y) C rt fs hq i r hi) (cwV 1 Cx.1.2.2.2.2 gX7_replaceRoute_Jx4a65c_get_915e3 rfl rfl rfl (by decide +kernel) ⟨Nat.le_of_ble_eq_true rfl, Nat.le_of_ble_eq_true rfl⟩) (z_recvL Cx hw hq) rfl hl.1 rfl (Nat.le_of_ble_eq_true rfl) dX7_replaceRoute_5 ⟨Nat.le_of_ble_eq_true rfl, Nat.le_of_ble_eq_true rfl⟩) (fun H locs hw => ?_)
  refine z_cast Cx hw (r := (RX4, TX4, 2)) (List.mem_append_right X hr0) rfl (List.mem_of_getElem? (i := 2) rfl) dX7_replaceRoute_8 ?_
  refine lv_astore_n hx hb dX7_replaceRoute_11 rfl hl (by decide) rfl (fun ls hl => ?_)
  have hl : lv_has ls 5 [(3, .ref r), (0, .ref a), (1, .int (nI i)), (2, .int (-1))] := hl
  refine lv_aload_n hx hb dX7_replaceRoute_12 rfl (lv_at hl 0 rfl) ?_
  refine z_get Cx hw (T := TX4) (N := 2) (ci := 7) (fun _ h => List.mem_cons_of_mem _ (List.mem_append_left _ (List.mem_append_right _ (h)))) (List.mem_append_right X hr0) rfl 1 (by decide) (List.mem_of_getElem? (i := 3) rfl) rfl rfl dX7_replaceRoute_13 ?_
  refine lv_istore hx hb dX7_replaceRoute_16 hl (by decide) rfl (fun ls hl => ?_)
  have hl : lv_has ls 5 [(4, .int pe0), (3, .ref r), (0, .ref a), (1, .int (nI i)), (2, .int (-1))] := hl
  refine lv_iload_n hx hb dX7_replaceRoute_18 rfl (lv_at hl 4 rfl) ?_
  refine lv_iconst (v := -1) hx hb dX7_replaceRoute_19 (by decide) ?_
  refine lv_icmp_ne (tgt := 35) hx hb dX7_replaceRoute_20 (by decide) (fun c_20 => ?_) (fun c_20 => ?_)
  · skip
    exact absurd rfl c_20
  · skip
    refine lv_aload_n hx hb dX7_replaceRoute_23 rfl (lv_at hl 2 rfl) ?_
    refine z_get Cx hw (T := TX6) (N := 4) (ci := 9) (fun _ h => List.mem_cons_of_mem _ (List.mem_append_left _ (List.mem_append_left _ (List.mem_append_right _ (h))))) (List.mem_append_right X hs) rfl 3 (by decide) (List.mem_of_getElem? (i := 1) rfl) rfl rfl dX7_replaceRoute_24 ?_
    refine lv_iload_n hx hb dX7_replaceRoute_27 rfl (lv_at hl 3 rfl) ?_
    refine z_goer hw.2 (z_runV Cx hw (c_al_rem E l (X ++ Y) C rt fs hq i r hi) (cwV 1 Cx.1.2.2.2.2 gX7_replaceRoute_Jx4a65c_remove_915e3 rfl rfl rfl (by decide +kernel) ⟨Nat.le_of_ble_eq_true rfl, Nat.le_of_ble_eq_true rfl⟩) (z_recvL Cx hw hq) rfl hl.1 rfl (Nat.le_of_ble_eq_true rfl) dX7_replaceRoute_28 ⟨Nat.le_of_ble_eq_true rfl, Nat.le_of_ble_eq_true rfl⟩) (fun H locs hw => ?_)
    refine lv_pop hx hb dX7_replaceRoute_31 rfl ?_
    refine lv_goto (tgt := 40) hx hb dX7_replaceRoute_32 (by decide) ?_
    refine lv_iload hx hb dX7_replaceRoute_40 (lv_at hl 0 rfl) ?_
    exact (z_ie Cx hr rfl (Nat.le_of_ble_eq_true rfl) (Nat.le_of_ble_eq_true rfl) hw dX7_replaceRoute_42 rfl)

set_option maxRecDepth 100000 in
set_option maxHeartbeats 4000000 in
/-- replaceRoute, anew -/
theorem c_replace_set (E : zG) (l : Launch) (X Y : va_W) (C : zLs) (a nw bk rl rt : Nat) (fs : List Nat) (hs : (a, Sum.inr (9, [.ref nw, .ref bk, .ref rl, .ref rt])) ∈ Y) (hq : C rt = some fs) (i r rb : Nat) (pe0 : Int32) (hi : fs[i]? = some r) (hr0 : (r, Sum.inr (7, [.ref rb, .int pe0])) ∈ Y) (pe : Int32) (hne : ¬ pe = -1) : Met l yX7_replaceRoute wsX7_replaceRoute (zR 4 0 0) (zPre E [.ref a, .int (nI i), .int pe] (zQ E (X ++ Y) C)) (zRi E (zQ E (X ++ zset Y r (Sum.inr (7, [.ref rb, .int pe]))) C) pe0) 0 0 (eA E) := by
  refine z_of (cc := cX7_replaceRoute) (maxL := 5) (ret := (some .int)) (by decide) rfl rfl (Nat.le_of_ble_eq_true rfl) ?_
  intro p e s m below meth c ls Cx hr hnm hw hl
  have hx := Cx.1.1
  have hb := Cx.1.2.1
  have hl : lv_has ls 5 [(0, .ref a), (1, .int (nI i)), (2, .int pe)] := hl
  refine lv_aload_n hx hb dX7_replaceRoute_0 rfl (lv_at hl 0 rfl) ?_
  refine z_get Cx hw (T := TX6) (N := 4) (ci := 9) (fun _ h => List.mem_cons_of_mem _ (List.mem_append_left _ (List.mem_append_left _ (List.mem_append_right _ (h))))) (List.mem_append_right X hs) rfl 3 (by decide) (List.mem_of_getElem? (i := 1) rfl) rfl rfl dX7_replaceRoute_1 ?_
  refine lv_iload_n hx hb dX7_replaceRoute_4 rfl (lv_at hl 1 rfl) ?_
  refine z_goer hw.2 (z_runV Cx hw (c_al_get E l (X ++ Y) C rt fs hq i r hi) (cwV 1 Cx.1.2.2.2.2 gX7_replaceRoute_Jx4a65c_get_915e3 rfl rfl rfl (by decide +kernel) ⟨Nat.le_of_ble_eq_true rfl, Nat.le_of_ble_eq_true rfl⟩) (z_recvL Cx hw hq) rfl hl.1 rfl (Nat.le_of_ble_eq_true rfl) dX7_replaceRoute_5 ⟨Nat.le_of_ble_eq_true rfl, Nat.le_of_ble_eq_true rfl⟩) (fun H locs hw => ?_)
  refine z_cast Cx hw (r := (RX4, TX4, 2)) (List.mem_append_right X hr0) rfl (List.mem_of_getElem? (i := 2) rfl) dX7_replaceRoute_8 ?_
  refine lv_astore_n hx hb dX7_replaceRoute_11 rfl hl (by decide) rfl (fun ls hl => ?_)
  have hl : lv_has ls 5 [(3, .ref r), (0, .ref a), (1, .int (nI i)), (2, .int pe)] := hl
  refine lv_aload_n hx hb dX7_replaceRoute_12 rfl (lv_at hl 0 rfl) ?_
  refine z_get Cx hw (T := TX4) (N := 2) (ci := 7) (fun _ h => List.mem_cons_of_mem _ (List.mem_append_left _ (List.mem_append_right _ (h)))) (List.mem_append_right X hr0) rfl 1 (by decide) (List.mem_of_getElem? (i := 3) rfl) rfl rfl dX7_replaceRoute_13 ?_
  refine lv_istore hx hb dX7_replaceRoute_16 hl (by decide) rfl (fun ls hl => ?_)
  have hl : lv_has ls 5 [(4, .int pe0), (3, .ref r), (0, .ref a), (1, .int (nI i)), (2, .int pe)] := hl
  refine lv_iload_n hx hb dX7_replaceRoute_18 rfl (lv_at hl 4 rfl) ?_
  refine lv_iconst (v := -1) hx hb dX7_replaceRoute_19 (by decide) ?_
  refine lv_icmp_ne (tgt := 35) hx hb dX7_replaceRoute_20 (by decide) (fun c_20 => ?_) (fun c_20 => ?_)
  · skip
    refine lv_aload_n hx hb dX7_replaceRoute_35 rfl (lv_at hl 1 rfl) ?_
    refine lv_iload_n hx hb dX7_replaceRoute_36 rfl (lv_at hl 4 rfl) ?_
    refine z_put Cx (X := X) (Y := Y) hw (T := TX4) (N := 2) (ci := 7) (ty := .int) (fun _ h => List.mem_cons_of_mem _ (List.mem_append_left _ (List.mem_append_right _ (h)))) tyX4 tyX4_ok nmX4 hr0 rfl 1 (by decide) (List.mem_of_getElem? (i := 3) rfl) rfl rfl (by decide +kernel) rfl rfl (Nat.le_of_ble_eq_true rfl) dX7_replaceRoute_37 (fun H locs hw => ?_)
    refine lv_iload hx hb dX7_replaceRoute_40 (lv_at hl 0 rfl) ?_
    exact (z_ie Cx hr rfl (Nat.le_of_ble_eq_true rfl) (Nat.le_of_ble_eq_true rfl) hw dX7_replaceRoute_42 rfl)
  · skip
    exact absurd c_20 hne


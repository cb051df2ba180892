set_option maxRecDepth 100000 in
set_option maxHeartbeats 4000000 in
/-- ArrayList.rangeCheckForAdd, in range -/
theorem c_rchk (E : zG) (l : Launch) (ws : va_W) (q i n : Nat) (v0 v1 : Value) (he : (q, Sum.inr (2, [v0, v1, .int (nI n)])) ∈ ws) (hi : i ≤ n) (hn : n ≤ 100) : Met l yJx4a65c_rangeCheckForAdd_d00df wsJx4a65c_rangeCheckForAdd_d00df (zR 0 0 0) (zPre E [.ref q, .int (nI i)] (zP E ws)) (zRv E (zP E ws)) 0 0 (eA E) := by
  refine z_of (cc := cJx4a65c_rangeCheckForAdd_d00df) (maxL := 2) (ret := none) (by decide) rfl rfl (Nat.le_of_ble_eq_true rfl) ?_
  intro p e s m below meth c ls Cx hr hnm hw hl
  have hx := Cx.1.1
  have hb := Cx.1.2.1
  have hl : lv_has ls 2 [(0, .ref q), (1, .int (nI i))] := hl
  refine lv_iload_n hx hb dJx4a65c_rangeCheckForAdd_d00df_0 rfl (lv_at hl 1 rfl) ?_
  refine lv_aload_n hx hb dJx4a65c_rangeCheckForAdd_d00df_1 rfl (lv_at hl 0 rfl) ?_
  refine zr_get Cx hw (T := TJx4a65c) (N := 3) (ci := 2) (fun _ h => List.mem_cons_of_mem _ (List.mem_append_right _ (h))) he rfl 2 (by decide) (List.mem_of_getElem? (i := 1) rfl) (Or.inl rfl) rfl dJx4a65c_rangeCheckForAdd_d00df_2 ?_
  refine lv_icmp_gt (tgt := 12) hx hb dJx4a65c_rangeCheckForAdd_d00df_5 (by decide) (fun c_5 => ?_) (fun c_5 => ?_)
  · skip
    exact absurd c_5 (nI_nlt hi (by omega))
  · skip
    refine lv_iload_n hx hb dJx4a65c_rangeCheckForAdd_d00df_8 rfl (lv_at hl 1 rfl) ?_
    refine lv_if_ge (tgt := 25) hx hb dJx4a65c_rangeCheckForAdd_d00df_9 (by decide) (fun c_9 => ?_) (fun c_9 => ?_)
    · skip
      exact (z_ve Cx hr (Nat.le_of_ble_eq_true rfl) (Nat.le_of_ble_eq_true rfl) hw dJx4a65c_rangeCheckForAdd_d00df_25)
    · skip
      exact absurd (nI_pos' (by omega)) c_9

set_option maxRecDepth 100000 in
set_option maxHeartbeats 4000000 in
/-- ArrayList.add(i, e), room is there -/
theorem c_addAtR (E : zG) (l : Launch) (R : va_W) (q : Nat) (mc : Int32) (t n k : Nat) (row : Nat → Option Nat) (hn : n < k) (hk : k ≤ 100) (hv : ∀ i, i < n → ∀ y, row i = some y → zV R y) (v : Nat) (hvv : zV R v) (i : Nat) (hi : i ≤ n) : Met l yJx4a65c_add_7a177 wsJx4a65c_add_7a177 (zR 7 1 100) (zPre E [.ref q, .int (nI i), .ref v] (zP E (R ++ [(q, Sum.inr (2, [.int mc, .ref t, .int (nI n)])), (t, zoa E k row)]))) (va_Qv (fun (_ : Nat × Int32) => True) (fun u tt => (fun (u : Nat × Int32) => zP E (R ++ [(q, Sum.inr (2, [.int u.2, .ref u.1, .int (nI (n + 1))])), (u.1, zoa E k (va_up (va_cpy row row i (i + 1) (n - i)) i (some v)))])) u tt.heap) (eA E)) 1 100 (eA E) := by
  refine z_of (cc := cJx4a65c_add_7a177) (maxL := 5) (ret := none) (by decide) rfl rfl (Nat.le_of_ble_eq_true rfl) ?_
  intro p e s m below meth c ls Cx hr hnm hw hl
  have hx := Cx.1.1
  have hb := Cx.1.2.1
  have hl : lv_has ls 5 [(0, .ref q), (1, .int (nI i)), (2, .ref v)] := hl
  refine lv_aload_n hx hb dJx4a65c_add_7a177_0 rfl (lv_at hl 0 rfl) ?_
  refine lv_iload_n hx hb dJx4a65c_add_7a177_1 rfl (lv_at hl 1 rfl) ?_
  refine z_goev hw.2 (z_runV Cx hw (c_rchk E l _ q i n _ _ z_m2 (by omega) (by omega)) (cwV 1 Cx.1.2.2.2.2 gJx4a65c_add_7a177_Jx4a65c_rangeCheckForAdd_d00df rfl rfl rfl (by decide +kernel) ⟨Nat.le_of_ble_eq_true rfl, Nat.le_of_ble_eq_true rfl⟩) (zr_recv Cx hw (r := (RJx4a65c, TJx4a65c, 3)) z_m2 rfl) rfl hl.1 rfl (Nat.le_of_ble_eq_true rfl) dJx4a65c_add_7a177_2 ⟨Nat.le_of_ble_eq_true rfl, Nat.le_of_ble_eq_true rfl⟩) (fun H locs hw => ?_)
  refine lv_aload_n hx hb dJx4a65c_add_7a177_5 rfl (lv_at hl 0 rfl) ?_
  refine lv_dup hx hb dJx4a65c_add_7a177_6 rfl ?_
  refine zr_get Cx hw (T := TJx4a65c) (N := 3) (ci := 2) (fun _ h => List.mem_cons_of_mem _ (List.mem_append_right _ (h))) z_m2 rfl 0 (by decide) (List.mem_of_getElem? (i := 1) rfl) (Or.inr (List.mem_of_getElem? (i := 2) rfl)) rfl dJx4a65c_add_7a177_7 ?_
  refine lv_iconst (v := 1) hx hb dJx4a65c_add_7a177_10 (by decide) ?_
  refine lv_iadd hx hb dJx4a65c_add_7a177_11 ?_
  refine lv_topi (fun x_11 ex_11 => ?_)
  refine zr_put Cx hw (T := TJx4a65c) (N := 3) (ci := 2) (ty := .int) (fun _ h => List.mem_cons_of_mem _ (List.mem_append_right _ (h))) tyJx4a65c tyJx4a65c_ok nmJx4a65c z_m2 rfl 0 (by decide) (List.mem_of_getElem? (i := 1) rfl) (Or.inr (List.mem_of_getElem? (i := 2) rfl)) rfl (by decide +kernel) rfl rfl (Nat.le_of_ble_eq_true rfl) dJx4a65c_add_7a177_12 (fun H locs hw2 => ?_)
  have hw : zH E (R ++ [(q, Sum.inr (2, [.int x_11, .ref t, .int (nI n)])), (t, zoa E k row)]) s H locs := zt_2 hw hw2
  refine lv_aload_n hx hb dJx4a65c_add_7a177_15 rfl (lv_at hl 0 rfl) ?_
  refine zr_get Cx hw (T := TJx4a65c) (N := 3) (ci := 2) (fun _ h => List.mem_cons_of_mem _ (List.mem_append_right _ (h))) z_m2 rfl 2 (by decide) (List.mem_of_getElem? (i := 3) rfl) (Or.inl rfl) rfl dJx4a65c_add_7a177_16 ?_
  refine lv_dup hx hb dJx4a65c_add_7a177_19 rfl ?_
  refine lv_istore_n hx hb dJx4a65c_add_7a177_20 rfl hl (by decide) rfl (fun ls hl => ?_)
  have hl : lv_has ls 5 [(3, _), (0, .ref q), (1, .int (nI i)), (2, .ref v)] := hl
  refine lv_aload_n hx hb dJx4a65c_add_7a177_21 rfl (lv_at hl 1 rfl) ?_
  refine zr_get Cx hw (T := TJx4a65c) (N := 3) (ci := 2) (fun _ h => List.mem_cons_of_mem _ (List.mem_append_right _ (h))) z_m2 rfl 1 (by decide) (List.mem_of_getElem? (i := 4) rfl) (Or.inl rfl) rfl dJx4a65c_add_7a177_22 ?_
  refine lv_dup hx hb dJx4a65c_add_7a177_25 rfl ?_
  refine lv_astore hx hb dJx4a65c_add_7a177_26 hl (by decide) rfl (fun ls hl => ?_)
  have hl : lv_has ls 5 [(4, _), (3, _), (0, .ref q), (1, .int (nI i)), (2, .ref v)] := hl
  refine zr_alen Cx hw z_m3 dJx4a65c_add_7a177_28 ?_
  refine lv_icmp_ne (tgt := 38) hx hb dJx4a65c_add_7a177_29 (by decide) (fun c_29 => ?_) (fun c_29 => ?_)
  · skip
    refine lv_aload hx hb dJx4a65c_add_7a177_38 (lv_at hl 0 rfl) ?_
    refine lv_iload_n hx hb dJx4a65c_add_7a177_40 rfl (lv_at hl 3 rfl) ?_
    refine lv_aload hx hb dJx4a65c_add_7a177_41 (lv_at hl 0 rfl) ?_
    refine lv_iload_n hx hb dJx4a65c_add_7a177_43 rfl (lv_at hl 3 rfl) ?_
    refine lv_iconst (v := 1) hx hb dJx4a65c_add_7a177_44 (by decide) ?_
    refine lv_iadd hx hb dJx4a65c_add_7a177_45 ?_
    refine lv_topi (fun x_45 ex_45 => ?_)
    have e_45 : x_45 = nI (i + 1) := by rw [ex_45]; exact nI_1 i
    subst e_45
    refine lv_iload_n hx hb dJx4a65c_add_7a177_46 rfl (lv_at hl 1 rfl) ?_
    refine lv_iload_n hx hb dJx4a65c_add_7a177_47 rfl (lv_at hl 3 rfl) ?_
    refine lv_isub hx hb dJx4a65c_add_7a177_48 ?_
    refine lv_topi (fun x_48 ex_48 => ?_)
    have e_48 : x_48 = nI (n - i) := by rw [ex_48]; exact pk_sub (by omega)
    subst e_48
    refine zr_copy Cx hw hl.1 (List.mem_of_getElem? (i := 5) rfl) (List.mem_of_getElem? (i := 6) rfl) (List.mem_of_getElem? (i := 7) rfl) (List.mem_of_getElem? (i := 8) rfl) z_m3 z_m3 (by omega) (by omega) (by omega) (by omega) (fun j hj y hy => (hv (i + j) (by omega) y hy).app) (Nat.le_of_ble_eq_true rfl) (Nat.le_of_ble_eq_true rfl) dJx4a65c_add_7a177_49 (fun H locs hw2 => ?_)
    have hw : zH E (R ++ [(q, Sum.inr (2, [.int x_11, .ref t, .int (nI n)])), (t, zoa E k (va_cpy row row i (i + 1) (n - i)))]) s H locs := zt_3 hw hw2
    refine lv_aload hx hb dJx4a65c_add_7a177_52 (lv_at hl 0 rfl) ?_
    refine lv_iload_n hx hb dJx4a65c_add_7a177_54 rfl (lv_at hl 3 rfl) ?_
    refine lv_aload_n hx hb dJx4a65c_add_7a177_55 rfl (lv_at hl 4 rfl) ?_
    refine zr_aast Cx hw z_m3 (by omega) (by omega) hvv.app dJx4a65c_add_7a177_56 (fun H locs hw2 => ?_)
    have hw : zH E (R ++ [(q, Sum.inr (2, [.int x_11, .ref t, .int (nI n)])), (t, zoa E k (va_up (va_cpy row row i (i + 1) (n - i)) i (some v)))]) s H locs := zt_3 hw hw2
    refine lv_aload_n hx hb dJx4a65c_add_7a177_57 rfl (lv_at hl 2 rfl) ?_
    refine lv_iload_n hx hb dJx4a65c_add_7a177_58 rfl (lv_at hl 1 rfl) ?_
    refine lv_iconst (v := 1) hx hb dJx4a65c_add_7a177_59 (by decide) ?_
    refine lv_iadd hx hb dJx4a65c_add_7a177_60 ?_
    refine lv_topi (fun x_60 ex_60 => ?_)
    have e_60 : x_60 = nI (n + 1) := by rw [ex_60]; exact nI_1 n
    subst e_60
    refine zr_put Cx hw (T := TJx4a65c) (N := 3) (ci := 2) (ty := .int) (fun _ h => List.mem_cons_of_mem _ (List.mem_append_right _ (h))) tyJx4a65c tyJx4a65c_ok nmJx4a65c z_m2 rfl 2 (by decide) (List.mem_of_getElem? (i := 3) rfl) (Or.inl rfl) rfl (by decide +kernel) rfl rfl (Nat.le_of_ble_eq_true rfl) dJx4a65c_add_7a177_61 (fun H locs hw2 => ?_)
    have hw : zH E (R ++ [(q, Sum.inr (2, [.int x_11, .ref t, .int (nI (n + 1))])), (t, zoa E k (va_up (va_cpy row row i (i + 1) (n - i)) i (some v)))]) s H locs := zt_2 hw hw2
    exact z_vret (wf := (fun (u : Nat × Int32) => zP E (R ++ [(q, Sum.inr (2, [.int u.2, .ref u.1, .int (nI (n + 1))])), (u.1, zoa E k (va_up (va_cpy row row i (i + 1) (n - i)) i (some v)))]))) Cx hr (Nat.le_of_ble_eq_true rfl) (Nat.le_of_ble_eq_true rfl) (t, x_11) hw trivial dJx4a65c_add_7a177_64
  · skip
    exact absurd ((nI_eq (by omega) (by omega)).mp c_29) (by omega)

set_option maxRecDepth 100000 in
set_option maxHeartbeats 4000000 in
/-- .. the array is full -/
theorem c_addAtF (E : zG) (l : Launch) (R : va_W) (q : Nat) (mc : Int32) (t n : Nat) (row : Nat → Option Nat) (h2 : 2 ≤ n) (hn : n ≤ 60) (hv : ∀ i, i < n → ∀ y, row i = some y → zV R y) (v : Nat) (hvv : zV R v) (i : Nat) (hi : i ≤ n) : Met l yJx4a65c_add_7a177 wsJx4a65c_add_7a177 (zR 7 1 100) (zPre E [.ref q, .int (nI i), .ref v] (zP E (R ++ [(q, Sum.inr (2, [.int mc, .ref t, .int (nI n)])), (t, zoa E n row)]))) (va_Qv (fun (_ : Nat × Int32) => True) (fun u tt => (fun (u : Nat × Int32) => zP E (R ++ [(q, Sum.inr (2, [.int u.2, .ref u.1, .int (nI (n + 1))])), (u.1, zoa E (n + n / 2) (va_up (va_cpy (va_cpy row (fun _ => none) 0 0 n) (va_cpy row (fun _ => none) 0 0 n) i (i + 1) (n - i)) i (some v)))])) u tt.heap) (eA E)) 1 100 (eA E) := by
  refine z_of (cc := cJx4a65c_add_7a177) (maxL := 5) (ret := none) (by decide) rfl rfl (Nat.le_of_ble_eq_true rfl) ?_
  intro p e s m below meth c ls Cx hr hnm hw hl
  have hx := Cx.1.1
  have hb := Cx.1.2.1
  have hl : lv_has ls 5 [(0, .ref q), (1, .int (nI i)), (2, .ref v)] := hl
  refine lv_aload_n hx hb dJx4a65c_add_7a177_0 rfl (lv_at hl 0 rfl) ?_
  refine lv_iload_n hx hb dJx4a65c_add_7a177_1 rfl (lv_at hl 1 rfl) ?_
  refine z_goev hw.2 (z_runV Cx hw (c_rchk E l _ q i n _ _ z_m2 (by omega) (by omega)) (cwV 1 Cx.1.2.2.2.2 gJx4a65c_add_7a177_Jx4a65c_rangeCheckForAdd_d00df rfl rfl rfl (by decide +kernel) ⟨Nat.le_of_ble_eq_true rfl, Nat.le_of_ble_eq_true rfl⟩) (zr_recv Cx hw (r := (RJx4a65c, TJx4a65c, 3)) z_m2 rfl) rfl hl.1 rfl (Nat.le_of_ble_eq_true rfl) dJx4a65c_add_7a177_2 ⟨Nat.le_of_ble_eq_true rfl, Nat.le_of_ble_eq_true rfl⟩) (fun H locs hw => ?_)
  refine lv_aload_n hx hb dJx4a65c_add_7a177_5 rfl (lv_at hl 0 rfl) ?_
  refine lv_dup hx hb dJx4a65c_add_7a177_6 rfl ?_
  refine zr_get Cx hw (T := TJx4a65c) (N := 3) (ci := 2) (fun _ h => List.mem_cons_of_mem _ (List.mem_append_right _ (h))) z_m2 rfl 0 (by decide) (List.mem_of_getElem? (i := 1) rfl) (Or.inr (List.mem_of_getElem? (i := 2) rfl)) rfl dJx4a65c_add_7a177_7 ?_
  refine lv_iconst (v := 1) hx hb dJx4a65c_add_7a177_10 (by decide) ?_
  refine lv_iadd hx hb dJx4a65c_add_7a177_11 ?_
  refine lv_topi (fun x_11 ex_11 => ?_)
  refine zr_put Cx hw (T := TJx4a65c) (N := 3) (ci := 2) (ty := .int) (fun _ h => List.mem_cons_of_mem _ (List.mem_append_right _ (h))) tyJx4a65c tyJx4a65c_ok nmJx4a65c z_m2 rfl 0 (by decide) (List.mem_of_getElem? (i := 1) rfl) (Or.inr (List.mem_of_getElem? (i := 2) rfl)) rfl (by decide +kernel) rfl rfl (Nat.le_of_ble_eq_true rfl) dJx4a65c_add_7a177_12 (fun H locs hw2 => ?_)
  have hw : zH E (R ++ [(q, Sum.inr (2, [.int x_11, .ref t, .int (nI n)])), (t, zoa E n row)]) s H locs := zt_2 hw hw2
  refine lv_aload_n hx hb dJx4a65c_add_7a177_15 rfl (lv_at hl 0 rfl) ?_
  refine zr_get Cx hw (T := TJx4a65c) (N := 3) (ci := 2) (fun _ h => List.mem_cons_of_mem _ (List.mem_append_right _ (h))) z_m2 rfl 2 (by decide) (List.mem_of_getElem? (i := 3) rfl) (Or.inl rfl) rfl dJx4a65c_add_7a177_16 ?_
  refine lv_dup hx hb dJx4a65c_add_7a177_19 rfl ?_
  refine lv_istore_n hx hb dJx4a65c_add_7a177_20 rfl hl (by decide) rfl (fun ls hl => ?_)
  have hl : lv_has ls 5 [(3, _), (0, .ref q), (1, .int (nI i)), (2, .ref v)] := hl
  refine lv_aload_n hx hb dJx4a65c_add_7a177_21 rfl (lv_at hl 1 rfl) ?_
  refine zr_get Cx hw (T := TJx4a65c) (N := 3) (ci := 2) (fun _ h => List.mem_cons_of_mem _ (List.mem_append_right _ (h))) z_m2 rfl 1 (by decide) (List.mem_of_getElem? (i := 4) rfl) (Or.inl rfl) rfl dJx4a65c_add_7a177_22 ?_
  refine lv_dup hx hb dJx4a65c_add_7a177_25 rfl ?_
  refine lv_astore hx hb dJx4a65c_add_7a177_26 hl (by decide) rfl (fun ls hl => ?_)
  have hl : lv_has ls 5 [(4, _), (3, _), (0, .ref q), (1, .int (nI i)), (2, .ref v)] := hl
  refine zr_alen Cx hw z_m3 dJx4a65c_add_7a177_28 ?_
  refine lv_icmp_ne (tgt := 38) hx hb dJx4a65c_add_7a177_29 (by decide) (fun c_29 => ?_) (fun c_29 => ?_)
  · skip
    exact absurd rfl c_29
  · skip
    refine lv_aload_n hx hb dJx4a65c_add_7a177_32 rfl (lv_at hl 2 rfl) ?_
    refine z_gor (pr := fun (t2 : Nat) a => a = t2) (wf := fun t2 => zP E (R ++ [(q, Sum.inr (2, [.int x_11, .ref t2, .int (nI n)])), (t2, zoa E (n + n / 2) (va_cpy row (fun _ => none) 0 0 n))])) hw.2 (z_runV Cx hw (c_growF E l R q x_11 t n row h2 hn hv) (cwV 0 Cx.1.2.2.2.2 gJx4a65c_add_7a177_Jx4a65c_grow_d5877 rfl rfl rfl (by decide +kernel) ⟨Nat.le_of_ble_eq_true rfl, Nat.le_of_ble_eq_true rfl⟩) (zr_recv Cx hw (r := (RJx4a65c, TJx4a65c, 3)) z_m2 rfl) rfl hl.1 rfl (Nat.le_of_ble_eq_true rfl) dJx4a65c_add_7a177_33 ⟨Nat.le_of_ble_eq_true rfl, Nat.le_of_ble_eq_true rfl⟩) (fun t2 ra H locs _ hra hw => ?_)
    subst hra
    refine lv_astore hx hb dJx4a65c_add_7a177_36 hl (by decide) rfl (fun ls hl => ?_)
    have hl : lv_has ls 5 [(4, .ref ra), (3, _), (0, .ref q), (1, .int (nI i)), (2, .ref v)] := hl
    refine lv_aload hx hb dJx4a65c_add_7a177_38 (lv_at hl 0 rfl) ?_
    refine lv_iload_n hx hb dJx4a65c_add_7a177_40 rfl (lv_at hl 3 rfl) ?_
    refine lv_aload hx hb dJx4a65c_add_7a177_41 (lv_at hl 0 rfl) ?_
    refine lv_iload_n hx hb dJx4a65c_add_7a177_43 rfl (lv_at hl 3 rfl) ?_
    refine lv_iconst (v := 1) hx hb dJx4a65c_add_7a177_44 (by decide) ?_
    refine lv_iadd hx hb dJx4a65c_add_7a177_45 ?_
    refine lv_topi (fun x_45 ex_45 => ?_)
    have e_45 : x_45 = nI (i + 1) := by rw [ex_45]; exact nI_1 i
    subst e_45
    refine lv_iload_n hx hb dJx4a65c_add_7a177_46 rfl (lv_at hl 1 rfl) ?_
    refine lv_iload_n hx hb dJx4a65c_add_7a177_47 rfl (lv_at hl 3 rfl) ?_
    refine lv_isub hx hb dJx4a65c_add_7a177_48 ?_
    refine lv_topi (fun x_48 ex_48 => ?_)
    have e_48 : x_48 = nI (n - i) := by rw [ex_48]; exact pk_sub (by omega)
    subst e_48
    refine zr_copy Cx hw hl.1 (List.mem_of_getElem? (i := 5) rfl) (List.mem_of_getElem? (i := 6) rfl) (List.mem_of_getElem? (i := 7) rfl) (List.mem_of_getElem? (i := 8) rfl) z_m3 z_m3 (by omega) (by omega) (by omega) (by omega) (fun j hj y hy => (hv (i + j) (by omega) y (by rw [pk_cpy_in (by omega) (by omega)] at hy; rw [Nat.zero_add, Nat.sub_zero] at hy; exact hy)).app) (Nat.le_of_ble_eq_true rfl) (Nat.le_of_ble_eq_true rfl) dJx4a65c_add_7a177_49 (fun H locs hw2 => ?_)
    have hw : zH E (R ++ [(q, Sum.inr (2, [.int x_11, .ref ra, .int (nI n)])), (ra, zoa E (n + n / 2) (va_cpy (va_cpy row (fun _ => none) 0 0 n) (va_cpy row (fun _ => none) 0 0 n) i (i + 1) (n - i)))]) s H locs := zt_3 hw hw2
    refine lv_aload hx hb dJx4a65c_add_7a177_52 (lv_at hl 0 rfl) ?_
    refine lv_iload_n hx hb dJx4a65c_add_7a177_54 rfl (lv_at hl 3 rfl) ?_
    refine lv_aload_n hx hb dJx4a65c_add_7a177_55 rfl (lv_at hl 4 rfl) ?_
    refine zr_aast Cx hw z_m3 (by omega) (by omega) hvv.app dJx4a65c_add_7a177_56 (fun H locs hw2 => ?_)
    have hw : zH E (R ++ [(q, Sum.inr (2, [.int x_11, .ref ra, .int (nI n)])), (ra, zoa E (n + n / 2) (va_up (va_cpy (va_cpy row (fun _ => none) 0 0 n) (va_cpy row (fun _ => none) 0 0 n) i (i + 1) (n - i)) i (some v)))]) s H locs := zt_3 hw hw2
    refine lv_aload_n hx hb dJx4a65c_add_7a177_57 rfl (lv_at hl 2 rfl) ?_
    refine lv_iload_n hx hb dJx4a65c_add_7a177_58 rfl (lv_at hl 1 rfl) ?_
    refine lv_iconst (v := 1) hx hb dJx4a65c_add_7a177_59 (by decide) ?_
    refine lv_iadd hx hb dJx4a65c_add_7a177_60 ?_
    refine lv_topi (fun x_60 ex_60 => ?_)
    have e_60 : x_60 = nI (n + 1) := by rw [ex_60]; exact nI_1 n
    subst e_60
    refine zr_put Cx hw (T := TJx4a65c) (N := 3) (ci := 2) (ty := .int) (fun _ h => List.mem_cons_of_mem _ (List.mem_append_right _ (h))) tyJx4a65c tyJx4a65c_ok nmJx4a65c z_m2 rfl 2 (by decide) (List.mem_of_getElem? (i := 3) rfl) (Or.inl rfl) rfl (by decide +kernel) rfl rfl (Nat.le_of_ble_eq_true rfl) dJx4a65c_add_7a177_61 (fun H locs hw2 => ?_)
    have hw : zH E (R ++ [(q, Sum.inr (2, [.int x_11, .ref ra, .int (nI (n + 1))])), (ra, zoa E (n + n / 2) (va_up (va_cpy (va_cpy row (fun _ => none) 0 0 n) (va_cpy row (fun _ => none) 0 0 n) i (i + 1) (n - i)) i (some v)))]) s H locs := zt_2 hw hw2
    exact z_vret (wf := (fun (u : Nat × Int32) => zP E (R ++ [(q, Sum.inr (2, [.int u.2, .ref u.1, .int (nI (n + 1))])), (u.1, zoa E (n + n / 2) (va_up (va_cpy (va_cpy row (fun _ => none) 0 0 n) (va_cpy row (fun _ => none) 0 0 n) i (i + 1) (n - i)) i (some v)))]))) Cx hr (Nat.le_of_ble_eq_true rfl) (Nat.le_of_ble_eq_true rfl) (ra, x_11) hw trivial dJx4a65c_add_7a177_64

set_option maxRecDepth 100000 in
set_option maxHeartbeats 4000000 in
/-- .. the first -/
theorem c_addAtE (E : zG) (l : Launch) (R : va_W) (q : Nat) (mc : Int32) (v : Nat) (hvv : zV R v)  : Met l yJx4a65c_add_7a177 wsJx4a65c_add_7a177 (zR 7 1 100) (zPre E [.ref q, .int (nI 0), .ref v] (zP E (R ++ [(q, Sum.inr (2, [.int mc, .ref (eT E), .int (nI 0)]))]))) (va_Qv (fun (_ : Nat × Int32) => True) (fun u tt => (fun (u : Nat × Int32) => zP E (R ++ [(q, Sum.inr (2, [.int u.2, .ref u.1, .int (nI (0 + 1))])), (u.1, zoa E 10 (va_up (va_cpy (fun _ => none) (fun _ => none) 0 (0 + 1) (0 - 0)) 0 (some v)))])) u tt.heap) (eA E)) 1 100 (eA E) := by
  refine z_of (cc := cJx4a65c_add_7a177) (maxL := 5) (ret := none) (by decide) rfl rfl (Nat.le_of_ble_eq_true rfl) ?_
  intro p e s m below meth c ls Cx hr hnm hw hl
  have hx := Cx.1.1
  have hb := Cx.1.2.1
  have hl : lv_has ls 5 [(0, .ref q), (1, .int (nI 0)), (2, .ref v)] := hl
  refine lv_aload_n hx hb dJx4a65c_add_7a177_0 rfl (lv_at hl 0 rfl) ?_
  refine lv_iload_n hx hb dJx4a65c_add_7a177_1 rfl (lv_at hl 1 rfl) ?_
  refine z_goev hw.2 (z_runV Cx hw (c_rchk E l _ q 0 0 _ _ z_m1 (by omega) (by omega)) (cwV 1 Cx.1.2.2.2.2 gJx4a65c_add_7a177_Jx4a65c_rangeCheckForAdd_d00df rfl rfl rfl (by decide +kernel) ⟨Nat.le_of_ble_eq_true rfl, Nat.le_of_ble_eq_true rfl⟩) (zr_recv Cx hw (r := (RJx4a65c, TJx4a65c, 3)) z_m1 rfl) rfl hl.1 rfl (Nat.le_of_ble_eq_true rfl) dJx4a65c_add_7a177_2 ⟨Nat.le_of_ble_eq_true rfl, Nat.le_of_ble_eq_true rfl⟩) (fun H locs hw => ?_)
  refine lv_aload_n hx hb dJx4a65c_add_7a177_5 rfl (lv_at hl 0 rfl) ?_
  refine lv_dup hx hb dJx4a65c_add_7a177_6 rfl ?_
  refine zr_get Cx hw (T := TJx4a65c) (N := 3) (ci := 2) (fun _ h => List.mem_cons_of_mem _ (List.mem_append_right _ (h))) z_m1 rfl 0 (by decide) (List.mem_of_getElem? (i := 1) rfl) (Or.inr (List.mem_of_getElem? (i := 2) rfl)) rfl dJx4a65c_add_7a177_7 ?_
  refine lv_iconst (v := 1) hx hb dJx4a65c_add_7a177_10 (by decide) ?_
  refine lv_iadd hx hb dJx4a65c_add_7a177_11 ?_
  refine lv_topi (fun x_11 ex_11 => ?_)
  refine zr_put Cx hw (T := TJx4a65c) (N := 3) (ci := 2) (ty := .int) (fun _ h => List.mem_cons_of_mem _ (List.mem_append_right _ (h))) tyJx4a65c tyJx4a65c_ok nmJx4a65c z_m1 rfl 0 (by decide) (List.mem_of_getElem? (i := 1) rfl) (Or.inr (List.mem_of_getElem? (i := 2) rfl)) rfl (by decide +kernel) rfl rfl (Nat.le_of_ble_eq_true rfl) dJx4a65c_add_7a177_12 (fun H locs hw2 => ?_)
  have hw : zH E (R ++ [(q, Sum.inr (2, [.int x_11, .ref (eT E), .int (nI 0)]))]) s H locs := zt_1 hw hw2
  refine lv_aload_n hx hb dJx4a65c_add_7a177_15 rfl (lv_at hl 0 rfl) ?_
  refine zr_get Cx hw (T := TJx4a65c) (N := 3) (ci := 2) (fun _ h => List.mem_cons_of_mem _ (List.mem_append_right _ (h))) z_m1 rfl 2 (by decide) (List.mem_of_getElem? (i := 3) rfl) (Or.inl rfl) rfl dJx4a65c_add_7a177_16 ?_
  refine lv_dup hx hb dJx4a65c_add_7a177_19 rfl ?_
  refine lv_istore_n hx hb dJx4a65c_add_7a177_20 rfl hl (by decide) rfl (fun ls hl => ?_)
  have hl : lv_has ls 5 [(3, _), (0, .ref q), (1, .int (nI 0)), (2, .ref v)] := hl
  refine lv_aload_n hx hb dJx4a65c_add_7a177_21 rfl (lv_at hl 1 rfl) ?_
  refine zr_get Cx hw (T := TJx4a65c) (N := 3) (ci := 2) (fun _ h => List.mem_cons_of_mem _ (List.mem_append_right _ (h))) z_m1 rfl 1 (by decide) (List.mem_of_getElem? (i := 4) rfl) (Or.inl rfl) rfl dJx4a65c_add_7a177_22 ?_
  refine lv_dup hx hb dJx4a65c_add_7a177_25 rfl ?_
  refine lv_astore hx hb dJx4a65c_add_7a177_26 hl (by decide) rfl (fun ls hl => ?_)
  have hl : lv_has ls 5 [(4, _), (3, _), (0, .ref q), (1, .int (nI 0)), (2, .ref v)] := hl
  refine zr_alen0 Cx hw dJx4a65c_add_7a177_28 ?_
  refine lv_icmp_ne (tgt := 38) hx hb dJx4a65c_add_7a177_29 (by decide) (fun c_29 => ?_) (fun c_29 => ?_)
  · skip
    exact absurd rfl c_29
  · skip
    refine lv_aload_n hx hb dJx4a65c_add_7a177_32 rfl (lv_at hl 2 rfl) ?_
    refine z_gor (pr := fun (t2 : Nat) a => a = t2) (wf := fun t2 => zP E (R ++ [(q, Sum.inr (2, [.int x_11, .ref t2, .int 0])), (t2, zoa E 10 (fun _ => none))])) hw.2 (z_runV Cx hw (c_growE E l R q x_11) (cwV 0 Cx.1.2.2.2.2 gJx4a65c_add_7a177_Jx4a65c_grow_d5877 rfl rfl rfl (by decide +kernel) ⟨Nat.le_of_ble_eq_true rfl, Nat.le_of_ble_eq_true rfl⟩) (zr_recv Cx hw (r := (RJx4a65c, TJx4a65c, 3)) z_m1 rfl) rfl hl.1 rfl (Nat.le_of_ble_eq_true rfl) dJx4a65c_add_7a177_33 ⟨Nat.le_of_ble_eq_true rfl, Nat.le_of_ble_eq_true rfl⟩) (fun t2 ra H locs _ hra hw => ?_)
    subst hra
    refine lv_astore hx hb dJx4a65c_add_7a177_36 hl (by decide) rfl (fun ls hl => ?_)
    have hl : lv_has ls 5 [(4, .ref ra), (3, _), (0, .ref q), (1, .int (nI 0)), (2, .ref v)] := hl
    refine lv_aload hx hb dJx4a65c_add_7a177_38 (lv_at hl 0 rfl) ?_
    refine lv_iload_n hx hb dJx4a65c_add_7a177_40 rfl (lv_at hl 3 rfl) ?_
    refine lv_aload hx hb dJx4a65c_add_7a177_41 (lv_at hl 0 rfl) ?_
    refine lv_iload_n hx hb dJx4a65c_add_7a177_43 rfl (lv_at hl 3 rfl) ?_
    refine lv_iconst (v := 1) hx hb dJx4a65c_add_7a177_44 (by decide) ?_
    refine lv_iadd hx hb dJx4a65c_add_7a177_45 ?_
    refine lv_topi (fun x_45 ex_45 => ?_)
    have e_45 : x_45 = nI (0 + 1) := by rw [ex_45]; exact nI_1 0
    subst e_45
    refine lv_iload_n hx hb dJx4a65c_add_7a177_46 rfl (lv_at hl 1 rfl) ?_
    refine lv_iload_n hx hb dJx4a65c_add_7a177_47 rfl (lv_at hl 3 rfl) ?_
    refine lv_isub hx hb dJx4a65c_add_7a177_48 ?_
    refine lv_topi (fun x_48 ex_48 => ?_)
    have e_48 : x_48 = nI (0 - 0) := by rw [ex_48]; exact pk_sub (by omega)
    subst e_48
    refine zr_copy Cx hw hl.1 (List.mem_of_getElem? (i := 5) rfl) (List.mem_of_getElem? (i := 6) rfl) (List.mem_of_getElem? (i := 7) rfl) (List.mem_of_getElem? (i := 8) rfl) z_m3 z_m3 (by omega) (by omega) (by omega) (by omega) (fun j hj y hy => nomatch hy) (Nat.le_of_ble_eq_true rfl) (Nat.le_of_ble_eq_true rfl) dJx4a65c_add_7a177_49 (fun H locs hw2 => ?_)
    have hw : zH E (R ++ [(q, Sum.inr (2, [.int x_11, .ref ra, .int (nI 0)])), (ra, zoa E 10 (va_cpy (fun _ => none) (fun _ => none) 0 (0 + 1) (0 - 0)))]) s H locs := zt_3 hw hw2
    refine lv_aload hx hb dJx4a65c_add_7a177_52 (lv_at hl 0 rfl) ?_
    refine lv_iload_n hx hb dJx4a65c_add_7a177_54 rfl (lv_at hl 3 rfl) ?_
    refine lv_aload_n hx hb dJx4a65c_add_7a177_55 rfl (lv_at hl 4 rfl) ?_
    refine zr_aast Cx hw z_m3 (by omega) (by omega) hvv.app dJx4a65c_add_7a177_56 (fun H locs hw2 => ?_)
    have hw : zH E (R ++ [(q, Sum.inr (2, [.int x_11, .ref ra, .int (nI 0)])), (ra, zoa E 10 (va_up (va_cpy (fun _ => none) (fun _ => none) 0 (0 + 1) (0 - 0)) 0 (some v)))]) s H locs := zt_3 hw hw2
    refine lv_aload_n hx hb dJx4a65c_add_7a177_57 rfl (lv_at hl 2 rfl) ?_
    refine lv_iload_n hx hb dJx4a65c_add_7a177_58 rfl (lv_at hl 1 rfl) ?_
    refine lv_iconst (v := 1) hx hb dJx4a65c_add_7a177_59 (by decide) ?_
    refine lv_iadd hx hb dJx4a65c_add_7a177_60 ?_
    refine lv_topi (fun x_60 ex_60 => ?_)
    have e_60 : x_60 = nI (0 + 1) := by rw [ex_60]; exact nI_1 0
    subst e_60
    refine zr_put Cx hw (T := TJx4a65c) (N := 3) (ci := 2) (ty := .int) (fun _ h => List.mem_cons_of_mem _ (List.mem_append_right _ (h))) tyJx4a65c tyJx4a65c_ok nmJx4a65c z_m2 rfl 2 (by decide) (List.mem_of_getElem? (i := 3) rfl) (Or.inl rfl) rfl (by decide +kernel) rfl rfl (Nat.le_of_ble_eq_true rfl) dJx4a65c_add_7a177_61 (fun H locs hw2 => ?_)
    have hw : zH E (R ++ [(q, Sum.inr (2, [.int x_11, .ref ra, .int (nI (0 + 1))])), (ra, zoa E 10 (va_up (va_cpy (fun _ => none) (fun _ => none) 0 (0 + 1) (0 - 0)) 0 (some v)))]) s H locs := zt_2 hw hw2
    exact z_vret (wf := (fun (u : Nat × Int32) => zP E (R ++ [(q, Sum.inr (2, [.int u.2, .ref u.1, .int (nI (0 + 1))])), (u.1, zoa E 10 (va_up (va_cpy (fun _ => none) (fun _ => none) 0 (0 + 1) (0 - 0)) 0 (some v)))]))) Cx hr (Nat.le_of_ble_eq_true rfl) (Nat.le_of_ble_eq_true rfl) (ra, x_11) hw trivial dJx4a65c_add_7a177_64

set_option maxRecDepth 100000 in
set_option maxHeartbeats 4000000 in
/-- ArrayList.fastRemove -/
theorem c_fastRem (E : zG) (l : Launch) (R : va_W) (q : Nat) (mc : Int32) (t n k : Nat) (row : Nat → Option Nat) (hn : n ≤ k) (hk : k ≤ 100) (hv : ∀ i, i < n → ∀ y, row i = some y → zV R y) (i : Nat) (hi : i < n)  : Met l yJx4a65c_fastRemove_b59b0 wsJx4a65c_fastRemove_b59b0 (zR 2 0 0) (zPre E [.ref q, .ref t, .int (nI i)] (zP E (R ++ [(q, Sum.inr (2, [.int mc, .ref t, .int (nI n)])), (t, zoa E k row)]))) (va_Qv (fun (u : Int32 × (Nat → Option Nat)) => ∀ j, j < n - 1 → u.2 j = if j < i then row j else row (j + 1)) (fun u tt => (fun (u : Int32 × (Nat → Option Nat)) => zP E (R ++ [(q, Sum.inr (2, [.int u.1, .ref t, .int (nI (n - 1))])), (t, zoa E k u.2)])) u tt.heap) (eA E)) 0 0 (eA E) := by
  refine z_of (cc := cJx4a65c_fastRemove_b59b0) (maxL := 4) (ret := none) (by decide) rfl rfl (Nat.le_of_ble_eq_true rfl) ?_
  intro p e s m below meth c ls Cx hr hnm hw hl
  have hx := Cx.1.1
  have hb := Cx.1.2.1
  have hl : lv_has ls 4 [(0, .ref q), (1, .ref t), (2, .int (nI i))] := hl
  refine lv_aload_n hx hb dJx4a65c_fastRemove_b59b0_0 rfl (lv_at hl 0 rfl) ?_
  refine lv_dup hx hb dJx4a65c_fastRemove_b59b0_1 rfl ?_
  refine zr_get Cx hw (T := TJx4a65c) (N := 3) (ci := 2) (fun _ h => List.mem_cons_of_mem _ (List.mem_append_right _ (h))) z_m2 rfl 0 (by decide) (List.mem_of_getElem? (i := 1) rfl) (Or.inr (List.mem_of_getElem? (i := 2) rfl)) rfl dJx4a65c_fastRemove_b59b0_2 ?_
  refine lv_iconst (v := 1) hx hb dJx4a65c_fastRemove_b59b0_5 (by decide) ?_
  refine lv_iadd hx hb dJx4a65c_fastRemove_b59b0_6 ?_
  refine lv_topi (fun x_6 ex_6 => ?_)
  refine zr_put Cx hw (T := TJx4a65c) (N := 3) (ci := 2) (ty := .int) (fun _ h => List.mem_cons_of_mem _ (List.mem_append_right _ (h))) tyJx4a65c tyJx4a65c_ok nmJx4a65c z_m2 rfl 0 (by decide) (List.mem_of_getElem? (i := 1) rfl) (Or.inr (List.mem_of_getElem? (i := 2) rfl)) rfl (by decide +kernel) rfl rfl (Nat.le_of_ble_eq_true rfl) dJx4a65c_fastRemove_b59b0_7 (fun H locs hw2 => ?_)
  have hw : zH E (R ++ [(q, Sum.inr (2, [.int x_6, .ref t, .int (nI n)])), (t, zoa E k row)]) s H locs := zt_2 hw hw2
  refine lv_aload_n hx hb dJx4a65c_fastRemove_b59b0_10 rfl (lv_at hl 0 rfl) ?_
  refine zr_get Cx hw (T := TJx4a65c) (N := 3) (ci := 2) (fun _ h => List.mem_cons_of_mem _ (List.mem_append_right _ (h))) z_m2 rfl 2 (by decide) (List.mem_of_getElem? (i := 3) rfl) (Or.inl rfl) rfl dJx4a65c_fastRemove_b59b0_11 ?_
  refine lv_iconst (v := 1) hx hb dJx4a65c_fastRemove_b59b0_14 (by decide) ?_
  refine lv_isub hx hb dJx4a65c_fastRemove_b59b0_15 ?_
  refine lv_topi (fun x_15 ex_15 => ?_)
  have e_15 : x_15 = nI (n - 1) := by rw [ex_15]; exact pk_sub (a := n) (b := 1) (by omega)
  subst e_15
  refine lv_dup hx hb dJx4a65c_fastRemove_b59b0_16 rfl ?_
  refine lv_istore_n hx hb dJx4a65c_fastRemove_b59b0_17 rfl hl (by decide) rfl (fun ls hl => ?_)
  have hl : lv_has ls 4 [(3, _), (0, .ref q), (1, .ref t), (2, .int (nI i))] := hl
  refine lv_iload_n hx hb dJx4a65c_fastRemove_b59b0_18 rfl (lv_at hl 3 rfl) ?_
  refine lv_icmp_le (tgt := 34) hx hb dJx4a65c_fastRemove_b59b0_19 (by decide) (fun c_19 => ?_) (fun c_19 => ?_)
  · skip
    refine lv_aload_n hx hb dJx4a65c_fastRemove_b59b0_34 rfl (lv_at hl 2 rfl) ?_
    refine lv_aload_n hx hb dJx4a65c_fastRemove_b59b0_35 rfl (lv_at hl 1 rfl) ?_
    refine lv_iload_n hx hb dJx4a65c_fastRemove_b59b0_36 rfl (lv_at hl 0 rfl) ?_
    refine lv_dup_x1 hx hb dJx4a65c_fastRemove_b59b0_37 rfl rfl ?_
    refine zr_put Cx hw (T := TJx4a65c) (N := 3) (ci := 2) (ty := .int) (fun _ h => List.mem_cons_of_mem _ (List.mem_append_right _ (h))) tyJx4a65c tyJx4a65c_ok nmJx4a65c z_m2 rfl 2 (by decide) (List.mem_of_getElem? (i := 3) rfl) (Or.inl rfl) rfl (by decide +kernel) rfl rfl (Nat.le_of_ble_eq_true rfl) dJx4a65c_fastRemove_b59b0_38 (fun H locs hw2 => ?_)
    have hw : zH E (R ++ [(q, Sum.inr (2, [.int x_6, .ref t, .int (nI (n - 1))])), (t, zoa E k row)]) s H locs := zt_2 hw hw2
    refine lv_null hx hb dJx4a65c_fastRemove_b59b0_41 ?_
    refine zr_aastN Cx hw z_m3 (by omega) (by omega) dJx4a65c_fastRemove_b59b0_42 (fun H locs hw2 => ?_)
    have hw : zH E (R ++ [(q, Sum.inr (2, [.int x_6, .ref t, .int (nI (n - 1))])), (t, zoa E k (va_up row (n - 1) none))]) s H locs := zt_3 hw hw2
    exact z_vret (wf := (fun (u : Int32 × (Nat → Option Nat)) => zP E (R ++ [(q, Sum.inr (2, [.int u.1, .ref t, .int (nI (n - 1))])), (t, zoa E k u.2)]))) Cx hr (Nat.le_of_ble_eq_true rfl) (Nat.le_of_ble_eq_true rfl) (x_6, (va_up row (n - 1) none)) hw (fun j hj => by
      show va_up row (n - 1) none j = _
      have c1 := (nI_leI (by omega) (by omega)).mp c_19
      rw [va_up_ne _ _ (by omega), if_pos (by omega)]) dJx4a65c_fastRemove_b59b0_43
  · skip
    have c_20 : ¬ n - 1 ≤ i := fun h => c_19 ((nI_leI (by omega) (by omega)).mpr h)
    refine lv_aload_n hx hb dJx4a65c_fastRemove_b59b0_22 rfl (lv_at hl 2 rfl) ?_
    refine lv_iload_n hx hb dJx4a65c_fastRemove_b59b0_23 rfl (lv_at hl 3 rfl) ?_
    refine lv_iconst (v := 1) hx hb dJx4a65c_fastRemove_b59b0_24 (by decide) ?_
    refine lv_iadd hx hb dJx4a65c_fastRemove_b59b0_25 ?_
    refine lv_topi (fun x_25 ex_25 => ?_)
    have e_25 : x_25 = nI (i + 1) := by rw [ex_25]; exact nI_1 i
    subst e_25
    refine lv_aload_n hx hb dJx4a65c_fastRemove_b59b0_26 rfl (lv_at hl 2 rfl) ?_
    refine lv_iload_n hx hb dJx4a65c_fastRemove_b59b0_27 rfl (lv_at hl 3 rfl) ?_
    refine lv_iload_n hx hb dJx4a65c_fastRemove_b59b0_28 rfl (lv_at hl 0 rfl) ?_
    refine lv_iload_n hx hb dJx4a65c_fastRemove_b59b0_29 rfl (lv_at hl 3 rfl) ?_
    refine lv_isub hx hb dJx4a65c_fastRemove_b59b0_30 ?_
    refine lv_topi (fun x_30 ex_30 => ?_)
    have e_30 : x_30 = nI (n - 1 - i) := by rw [ex_30]; exact pk_sub (by omega)
    subst e_30
    refine zr_copy Cx hw hl.1 (List.mem_of_getElem? (i := 4) rfl) (List.mem_of_getElem? (i := 5) rfl) (List.mem_of_getElem? (i := 6) rfl) (List.mem_of_getElem? (i := 7) rfl) z_m3 z_m3 (by omega) (by omega) (by omega) (by omega) (fun j hj y hy => (hv (i + 1 + j) (by omega) y hy).app) (Nat.le_of_ble_eq_true rfl) (Nat.le_of_ble_eq_true rfl) dJx4a65c_fastRemove_b59b0_31 (fun H locs hw2 => ?_)
    have hw : zH E (R ++ [(q, Sum.inr (2, [.int x_6, .ref t, .int (nI n)])), (t, zoa E k (va_cpy row row (i + 1) i (n - 1 - i)))]) s H locs := zt_3 hw hw2
    refine lv_aload_n hx hb dJx4a65c_fastRemove_b59b0_34 rfl (lv_at hl 2 rfl) ?_
    refine lv_aload_n hx hb dJx4a65c_fastRemove_b59b0_35 rfl (lv_at hl 1 rfl) ?_
    refine lv_iload_n hx hb dJx4a65c_fastRemove_b59b0_36 rfl (lv_at hl 0 rfl) ?_
    refine lv_dup_x1 hx hb dJx4a65c_fastRemove_b59b0_37 rfl rfl ?_
    refine zr_put Cx hw (T := TJx4a65c) (N := 3) (ci := 2) (ty := .int) (fun _ h => List.mem_cons_of_mem _ (List.mem_append_right _ (h))) tyJx4a65c tyJx4a65c_ok nmJx4a65c z_m2 rfl 2 (by decide) (List.mem_of_getElem? (i := 3) rfl) (Or.inl rfl) rfl (by decide +kernel) rfl rfl (Nat.le_of_ble_eq_true rfl) dJx4a65c_fastRemove_b59b0_38 (fun H locs hw2 => ?_)
    have hw : zH E (R ++ [(q, Sum.inr (2, [.int x_6, .ref t, .int (nI (n - 1))])), (t, zoa E k (va_cpy row row (i + 1) i (n - 1 - i)))]) s H locs := zt_2 hw hw2
    refine lv_null hx hb dJx4a65c_fastRemove_b59b0_41 ?_
    refine zr_aastN Cx hw z_m3 (by omega) (by omega) dJx4a65c_fastRemove_b59b0_42 (fun H locs hw2 => ?_)
    have hw : zH E (R ++ [(q, Sum.inr (2, [.int x_6, .ref t, .int (nI (n - 1))])), (t, zoa E k (va_up (va_cpy row row (i + 1) i (n - 1 - i)) (n - 1) none))]) s H locs := zt_3 hw hw2
    exact z_vret (wf := (fun (u : Int32 × (Nat → Option Nat)) => zP E (R ++ [(q, Sum.inr (2, [.int u.1, .ref t, .int (nI (n - 1))])), (t, zoa E k u.2)]))) Cx hr (Nat.le_of_ble_eq_true rfl) (Nat.le_of_ble_eq_true rfl) (x_6, (va_up (va_cpy row row (i + 1) i (n - 1 - i)) (n - 1) none)) hw (fun j hj => by
      show va_up (va_cpy row row (i + 1) i (n - 1 - i)) (n - 1) none j = _
      rw [va_up_ne _ _ (by omega)]
      by_cases c : j < i
      · rw [if_pos c, pk_cpy_out (Or.inl c)]
      · rw [if_neg c, pk_cpy_in (by omega) (by omega)]
        congr 1; omega) dJx4a65c_fastRemove_b59b0_43

set_option maxRecDepth 100000 in
set_option maxHeartbeats 4000000 in
/-- ArrayList.remove, in range -/
theorem c_remR (E : zG) (l : Launch) (R : va_W) (q : Nat) (mc : Int32) (t n k : Nat) (row : Nat → Option Nat) (hn : n ≤ k) (hk : k ≤ 100) (hv : ∀ i, i < n → ∀ y, row i = some y → zV R y) (i : Nat) (hi : i < n) (y : Nat) (hy : row i = some y)  : Met l yJx4a65c_remove_915e3 wsJx4a65c_remove_915e3 (zR 3 0 0) (zPre E [.ref q, .int (nI i)] (zP E (R ++ [(q, Sum.inr (2, [.int mc, .ref t, .int (nI n)])), (t, zoa E k row)]))) (va_Qr (fun (u : Int32 × (Nat → Option Nat)) => ∀ j, j < n - 1 → u.2 j = if j < i then row j else row (j + 1)) (fun u a tt => a = y ∧ (fun (u : Int32 × (Nat → Option Nat)) => zP E (R ++ [(q, Sum.inr (2, [.int u.1, .ref t, .int (nI (n - 1))])), (t, zoa E k u.2)])) u tt.heap) (eA E)) 0 0 (eA E) := by
  refine z_of (cc := cJx4a65c_remove_915e3) (maxL := 4) (ret := (some (.object "java/lang/Object"))) (by decide) rfl rfl (Nat.le_of_ble_eq_true rfl) ?_
  intro p e s m below meth c ls Cx hr hnm hw hl
  have hx := Cx.1.1
  have hb := Cx.1.2.1
  have hl : lv_has ls 4 [(0, .ref q), (1, .int (nI i))] := hl
  refine lv_iload_n hx hb dJx4a65c_remove_915e3_0 rfl (lv_at hl 1 rfl) ?_
  refine lv_aload_n hx hb dJx4a65c_remove_915e3_1 rfl (lv_at hl 0 rfl) ?_
  refine zr_get Cx hw (T := TJx4a65c) (N := 3) (ci := 2) (fun _ h => List.mem_cons_of_mem _ (List.mem_append_right _ (h))) z_m2 rfl 2 (by decide) (List.mem_of_getElem? (i := 1) rfl) (Or.inl rfl) rfl dJx4a65c_remove_915e3_2 ?_
  refine z_goe hw.2 (z_runS Cx hw (c_ochk E l (zP E (R ++ [(q, Sum.inr (2, [.int mc, .ref t, .int (nI n)])), (t, zoa E k row)])) i n hi (by omega)) (va_cwS 2 Cx.1.2.2.2.2 gJx4a65c_remove_915e3_J15_checkIndex_7cf53 rfl rfl rfl (by decide +kernel) ⟨Nat.le_of_ble_eq_true rfl, Nat.le_of_ble_eq_true rfl⟩)  rfl hl.1 rfl (Nat.le_of_ble_eq_true rfl) dJx4a65c_remove_915e3_5 ⟨Nat.le_of_ble_eq_true rfl, Nat.le_of_ble_eq_true rfl⟩) (fun H locs hw => ?_)
  refine lv_pop hx hb dJx4a65c_remove_915e3_8 rfl ?_
  refine lv_aload_n hx hb dJx4a65c_remove_915e3_9 rfl (lv_at hl 0 rfl) ?_
  refine zr_get Cx hw (T := TJx4a65c) (N := 3) (ci := 2) (fun _ h => List.mem_cons_of_mem _ (List.mem_append_right _ (h))) z_m2 rfl 1 (by decide) (List.mem_of_getElem? (i := 2) rfl) (Or.inl rfl) rfl dJx4a65c_remove_915e3_10 ?_
  refine lv_astore_n hx hb dJx4a65c_remove_915e3_13 rfl hl (by decide) rfl (fun ls hl => ?_)
  have hl : lv_has ls 4 [(2, .ref t), (0, .ref q), (1, .int (nI i))] := hl
  refine lv_aload_n hx hb dJx4a65c_remove_915e3_14 rfl (lv_at hl 0 rfl) ?_
  refine lv_iload_n hx hb dJx4a65c_remove_915e3_15 rfl (lv_at hl 2 rfl) ?_
  refine zr_aald Cx hw z_m3 (show i < k by omega) (by omega) hy dJx4a65c_remove_915e3_16 ?_
  refine lv_astore_n hx hb dJx4a65c_remove_915e3_17 rfl hl (by decide) rfl (fun ls hl => ?_)
  have hl : lv_has ls 4 [(3, .ref y), (2, .ref t), (0, .ref q), (1, .int (nI i))] := hl
  refine lv_aload_n hx hb dJx4a65c_remove_915e3_18 rfl (lv_at hl 2 rfl) ?_
  refine lv_aload_n hx hb dJx4a65c_remove_915e3_19 rfl (lv_at hl 1 rfl) ?_
  refine lv_iload_n hx hb dJx4a65c_remove_915e3_20 rfl (lv_at hl 3 rfl) ?_
  refine z_gov (wf := (fun (u : Int32 × (Nat → Option Nat)) => zP E (R ++ [(q, Sum.inr (2, [.int u.1, .ref t, .int (nI (n - 1))])), (t, zoa E k u.2)]))) hw.2 (z_runV Cx hw (c_fastRem E l R q mc t n k row hn hk hv i hi) (cwV 2 Cx.1.2.2.2.2 gJx4a65c_remove_915e3_Jx4a65c_fastRemove_b59b0 rfl rfl rfl (by decide +kernel) ⟨Nat.le_of_ble_eq_true rfl, Nat.le_of_ble_eq_true rfl⟩) (zr_recv Cx hw (r := (RJx4a65c, TJx4a65c, 3)) z_m2 rfl) rfl hl.1 rfl (Nat.le_of_ble_eq_true rfl) dJx4a65c_remove_915e3_21 ⟨Nat.le_of_ble_eq_true rfl, Nat.le_of_ble_eq_true rfl⟩) (fun u_21 H locs hp_21 hw => ?_)
  refine lv_aload_n hx hb dJx4a65c_remove_915e3_24 rfl (lv_at hl 0 rfl) ?_
  exact z_aret (pr := fun _ a => a = y) (wf := (fun (u : Int32 × (Nat → Option Nat)) => zP E (R ++ [(q, Sum.inr (2, [.int u.1, .ref t, .int (nI (n - 1))])), (t, zoa E k u.2)]))) Cx hr (Or.inl ⟨_, rfl⟩) (Nat.le_of_ble_eq_true rfl) (Nat.le_of_ble_eq_true rfl) u_21 hw hp_21 rfl dJx4a65c_remove_915e3_25

set_option maxRecDepth 100000 in
set_option maxHeartbeats 4000000 in
/-- ArrayList.clear -/
theorem c_clearR (E : zG) (l : Launch) (R : va_W) (q : Nat) (mc : Int32) (t n k : Nat) (row : Nat → Option Nat) (hn : n ≤ k) (hk : k ≤ 100)  : Met l yJx4a65c_clear_da8c8 wsJx4a65c_clear_da8c8 (zR 0 0 0) (zPre E [.ref q] (zP E (R ++ [(q, Sum.inr (2, [.int mc, .ref t, .int (nI n)])), (t, zoa E k row)]))) (va_Qv (fun _ => True) (fun u tt => (fun (u : Int32 × (Nat → Option Nat)) => zP E (R ++ [(q, Sum.inr (2, [.int u.1, .ref t, .int (nI 0)])), (t, zoa E k u.2)])) u tt.heap) (eA E)) 0 0 (eA E) := by
  refine z_of (cc := cJx4a65c_clear_da8c8) (maxL := 4) (ret := none) (by decide) rfl rfl (Nat.le_of_ble_eq_true rfl) ?_
  intro p e s m below meth c ls Cx hr hnm hw hl
  have hx := Cx.1.1
  have hb := Cx.1.2.1
  have hl : lv_has ls 4 [(0, .ref q)] := hl
  refine lv_aload_n hx hb dJx4a65c_clear_da8c8_0 rfl (lv_at hl 0 rfl) ?_
  refine lv_dup hx hb dJx4a65c_clear_da8c8_1 rfl ?_
  refine zr_get Cx hw (T := TJx4a65c) (N := 3) (ci := 2) (fun _ h => List.mem_cons_of_mem _ (List.mem_append_right _ (h))) z_m2 rfl 0 (by decide) (List.mem_of_getElem? (i := 1) rfl) (Or.inr (List.mem_of_getElem? (i := 2) rfl)) rfl dJx4a65c_clear_da8c8_2 ?_
  refine lv_iconst (v := 1) hx hb dJx4a65c_clear_da8c8_5 (by decide) ?_
  refine lv_iadd hx hb dJx4a65c_clear_da8c8_6 ?_
  refine lv_topi (fun x_6 ex_6 => ?_)
  refine zr_put Cx hw (T := TJx4a65c) (N := 3) (ci := 2) (ty := .int) (fun _ h => List.mem_cons_of_mem _ (List.mem_append_right _ (h))) tyJx4a65c tyJx4a65c_ok nmJx4a65c z_m2 rfl 0 (by decide) (List.mem_of_getElem? (i := 1) rfl) (Or.inr (List.mem_of_getElem? (i := 2) rfl)) rfl (by decide +kernel) rfl rfl (Nat.le_of_ble_eq_true rfl) dJx4a65c_clear_da8c8_7 (fun H locs hw2 => ?_)
  have hw : zH E (R ++ [(q, Sum.inr (2, [.int x_6, .ref t, .int (nI n)])), (t, zoa E k row)]) s H locs := zt_2 hw hw2
  refine lv_aload_n hx hb dJx4a65c_clear_da8c8_10 rfl (lv_at hl 0 rfl) ?_
  refine zr_get Cx hw (T := TJx4a65c) (N := 3) (ci := 2) (fun _ h => List.mem_cons_of_mem _ (List.mem_append_right _ (h))) z_m2 rfl 1 (by decide) (List.mem_of_getElem? (i := 3) rfl) (Or.inl rfl) rfl dJx4a65c_clear_da8c8_11 ?_
  refine lv_astore_n hx hb dJx4a65c_clear_da8c8_14 rfl hl (by decide) rfl (fun ls hl => ?_)
  have hl : lv_has ls 4 [(1, _), (0, .ref q)] := hl
  refine lv_aload_n hx hb dJx4a65c_clear_da8c8_15 rfl (lv_at hl 1 rfl) ?_
  refine zr_get Cx hw (T := TJx4a65c) (N := 3) (ci := 2) (fun _ h => List.mem_cons_of_mem _ (List.mem_append_right _ (h))) z_m2 rfl 2 (by decide) (List.mem_of_getElem? (i := 4) rfl) (Or.inl rfl) rfl dJx4a65c_clear_da8c8_16 ?_
  refine lv_istore_n hx hb dJx4a65c_clear_da8c8_19 rfl hl (by decide) rfl (fun ls hl => ?_)
  have hl : lv_has ls 4 [(2, _), (1, _), (0, .ref q)] := hl
  refine lv_aload_n hx hb dJx4a65c_clear_da8c8_20 rfl (lv_at hl 2 rfl) ?_
  refine lv_iconst (v := nI 0) hx hb dJx4a65c_clear_da8c8_21 rfl ?_
  refine lv_dup_x1 hx hb dJx4a65c_clear_da8c8_22 rfl rfl ?_
  refine zr_put Cx hw (T := TJx4a65c) (N := 3) (ci := 2) (ty := .int) (fun _ h => List.mem_cons_of_mem _ (List.mem_append_right _ (h))) tyJx4a65c tyJx4a65c_ok nmJx4a65c z_m2 rfl 2 (by decide) (List.mem_of_getElem? (i := 4) rfl) (Or.inl rfl) rfl (by decide +kernel) rfl rfl (Nat.le_of_ble_eq_true rfl) dJx4a65c_clear_da8c8_23 (fun H locs hw2 => ?_)
  have hw : zH E (R ++ [(q, Sum.inr (2, [.int x_6, .ref t, .int (nI 0)])), (t, zoa E k row)]) s H locs := zt_2 hw hw2
  refine lv_istore_n hx hb dJx4a65c_clear_da8c8_26 rfl hl (by decide) rfl (fun ls hl => ?_)
  have hl : lv_has ls 4 [(3, .int (nI 0)), (2, _), (1, _), (0, .ref q)] := hl
  have loop_27 : ∀ (nn : Nat) (i : Nat) (row2 : Nat → Option Nat) (H : Heap) (locs : List Loc) (ls : Array Slot), (i ≤ n) → n - i < nn → zH E (R ++ [(q, Sum.inr (2, [.int x_6, .ref t, .int (nI 0)])), (t, zoa E k row2)]) s H locs → lv_has ls 4 [(0, .ref q), (1, .ref t), (2, .int (nI n)), (3, .int (nI i))] → W p l e (zR 0 0 0) s m ([.ref q] : List Value).toArray below meth c H locs 0 0 (MQ below (va_Qv (fun _ => True) (fun u tt => (fun (u : Int32 × (Nat → Option Nat)) => zP E (R ++ [(q, Sum.inr (2, [.int u.1, .ref t, .int (nI 0)])), (t, zoa E k u.2)])) u tt.heap) (eA E)) ([.ref q] : List Value).toArray s 0 0 (eA E)) (F0 m 27 ls []) := by
    intro nn
    induction nn with
    | zero => intro i row2 H locs ls hi hm; exact absurd hm (Nat.not_lt_zero _)
    | succ nn ih =>
      intro i row2 H locs ls hi hm hw hl
      refine lv_iload_n hx hb dJx4a65c_clear_da8c8_27 rfl (lv_at hl 3 rfl) ?_
      refine lv_iload_n hx hb dJx4a65c_clear_da8c8_28 rfl (lv_at hl 2 rfl) ?_
      refine lv_icmp_ge (tgt := 42) hx hb dJx4a65c_clear_da8c8_29 (by decide) (fun c_29 => ?_) (fun c_29 => ?_)
      · skip
        exact z_vret (wf := (fun (u : Int32 × (Nat → Option Nat)) => zP E (R ++ [(q, Sum.inr (2, [.int u.1, .ref t, .int (nI 0)])), (t, zoa E k u.2)]))) Cx hr (Nat.le_of_ble_eq_true rfl) (Nat.le_of_ble_eq_true rfl) (x_6, row2) hw trivial dJx4a65c_clear_da8c8_42
      · skip
        have c_30 : i < n := by
          rcases Nat.lt_or_ge i n with h | h
          · exact h
          · exact absurd (nI_le h (by omega)) c_29
        refine lv_aload_n hx hb dJx4a65c_clear_da8c8_32 rfl (lv_at hl 1 rfl) ?_
        refine lv_iload_n hx hb dJx4a65c_clear_da8c8_33 rfl (lv_at hl 3 rfl) ?_
        refine lv_null hx hb dJx4a65c_clear_da8c8_34 ?_
        refine zr_aastN Cx hw z_m3 (by omega) (by omega) dJx4a65c_clear_da8c8_35 (fun H locs hw2 => ?_)
        have hw : zH E (R ++ [(q, Sum.inr (2, [.int x_6, .ref t, .int (nI 0)])), (t, zoa E k (va_up row2 i none))]) s H locs := zt_3 hw hw2
        refine lv_iinc (v := nI (i + 1)) hx hb dJx4a65c_clear_da8c8_36 hl (k := 3) rfl (nI_1 i) (by decide) rfl (fun ls hl => ?_)
        have hl : lv_has ls 4 [(3, .int (nI (i + 1))), (0, .ref q), (1, .ref t), (2, .int (nI n))] := hl
        refine lv_goto (tgt := 27) hx hb dJx4a65c_clear_da8c8_39 (by decide) ?_
        exact ih (i + 1) (va_up row2 i none) H _ ls (by omega) (by omega) hw (lv_sub hl [1, 2, 3, 0] rfl)
  exact loop_27 ((n - 0) + 1) 0 row H _ ls (Nat.zero_le _) (Nat.lt_succ_self _) hw (lv_sub hl [3, 2, 1, 0] rfl)

set_option maxRecDepth 100000 in
set_option maxHeartbeats 4000000 in
/-- .. without an array -/
theorem c_clearE (E : zG) (l : Launch) (R : va_W) (q : Nat) (mc : Int32)  : Met l yJx4a65c_clear_da8c8 wsJx4a65c_clear_da8c8 (zR 0 0 0) (zPre E [.ref q] (zP E (R ++ [(q, Sum.inr (2, [.int mc, .ref (eT E), .int (nI 0)]))]))) (va_Qv (fun _ => True) (fun u tt => (fun (u : Int32) => zP E (R ++ [(q, Sum.inr (2, [.int u, .ref (eT E), .int (nI 0)]))])) u tt.heap) (eA E)) 0 0 (eA E) := by
  refine z_of (cc := cJx4a65c_clear_da8c8) (maxL := 4) (ret := none) (by decide) rfl rfl (Nat.le_of_ble_eq_true rfl) ?_
  intro p e s m below meth c ls Cx hr hnm hw hl
  have hx := Cx.1.1
  have hb := Cx.1.2.1
  have hl : lv_has ls 4 [(0, .ref q)] := hl
  refine lv_aload_n hx hb dJx4a65c_clear_da8c8_0 rfl (lv_at hl 0 rfl) ?_
  refine lv_dup hx hb dJx4a65c_clear_da8c8_1 rfl ?_
  refine zr_get Cx hw (T := TJx4a65c) (N := 3) (ci := 2) (fun _ h => List.mem_cons_of_mem _ (List.mem_append_right _ (h))) z_m1 rfl 0 (by decide) (List.mem_of_getElem? (i := 1) rfl) (Or.inr (List.mem_of_getElem? (i := 2) rfl)) rfl dJx4a65c_clear_da8c8_2 ?_
  refine lv_iconst (v := 1) hx hb dJx4a65c_clear_da8c8_5 (by decide) ?_
  refine lv_iadd hx hb dJx4a65c_clear_da8c8_6 ?_
  refine lv_topi (fun x_6 ex_6 => ?_)
  refine zr_put Cx hw (T := TJx4a65c) (N := 3) (ci := 2) (ty := .int) (fun _ h => List.mem_cons_of_mem _ (List.mem_append_right _ (h))) tyJx4a65c tyJx4a65c_ok nmJx4a65c z_m1 rfl 0 (by decide) (List.mem_of_getElem? (i := 1) rfl) (Or.inr (List.mem_of_getElem? (i := 2) rfl)) rfl (by decide +kernel) rfl rfl (Nat.le_of_ble_eq_true rfl) dJx4a65c_clear_da8c8_7 (fun H locs hw2 => ?_)
  have hw : zH E (R ++ [(q, Sum.inr (2, [.int x_6, .ref (eT E), .int (nI 0)]))]) s H locs := zt_1 hw hw2
  refine lv_aload_n hx hb dJx4a65c_clear_da8c8_10 rfl (lv_at hl 0 rfl) ?_
  refine zr_get Cx hw (T := TJx4a65c) (N := 3) (ci := 2) (fun _ h => List.mem_cons_of_mem _ (List.mem_append_right _ (h))) z_m1 rfl 1 (by decide) (List.mem_of_getElem? (i := 3) rfl) (Or.inl rfl) rfl dJx4a65c_clear_da8c8_11 ?_
  refine lv_astore_n hx hb dJx4a65c_clear_da8c8_14 rfl hl (by decide) rfl (fun ls hl => ?_)
  have hl : lv_has ls 4 [(1, _), (0, .ref q)] := hl
  refine lv_aload_n hx hb dJx4a65c_clear_da8c8_15 rfl (lv_at hl 1 rfl) ?_
  refine zr_get Cx hw (T := TJx4a65c) (N := 3) (ci := 2) (fun _ h => List.mem_cons_of_mem _ (List.mem_append_right _ (h))) z_m1 rfl 2 (by decide) (List.mem_of_getElem? (i := 4) rfl) (Or.inl rfl) rfl dJx4a65c_clear_da8c8_16 ?_
  refine lv_istore_n hx hb dJx4a65c_clear_da8c8_19 rfl hl (by decide) rfl (fun ls hl => ?_)
  have hl : lv_has ls 4 [(2, _), (1, _), (0, .ref q)] := hl
  refine lv_aload_n hx hb dJx4a65c_clear_da8c8_20 rfl (lv_at hl 2 rfl) ?_
  refine lv_iconst (v := nI 0) hx hb dJx4a65c_clear_da8c8_21 rfl ?_
  refine lv_dup_x1 hx hb dJx4a65c_clear_da8c8_22 rfl rfl ?_
  refine zr_put Cx hw (T := TJx4a65c) (N := 3) (ci := 2) (ty := .int) (fun _ h => List.mem_cons_of_mem _ (List.mem_append_right _ (h))) tyJx4a65c tyJx4a65c_ok nmJx4a65c z_m1 rfl 2 (by decide) (List.mem_of_getElem? (i := 4) rfl) (Or.inl rfl) rfl (by decide +kernel) rfl rfl (Nat.le_of_ble_eq_true rfl) dJx4a65c_clear_da8c8_23 (fun H locs hw2 => ?_)
  have hw : zH E (R ++ [(q, Sum.inr (2, [.int x_6, .ref (eT E), .int (nI 0)]))]) s H locs := zt_1 hw hw2
  refine lv_istore_n hx hb dJx4a65c_clear_da8c8_26 rfl hl (by decide) rfl (fun ls hl => ?_)
  have hl : lv_has ls 4 [(3, .int (nI 0)), (2, _), (1, _), (0, .ref q)] := hl
  refine lv_iload_n hx hb dJx4a65c_clear_da8c8_27 rfl (lv_at hl 0 rfl) ?_
  refine lv_iload_n hx hb dJx4a65c_clear_da8c8_28 rfl (lv_at hl 1 rfl) ?_
  refine lv_icmp_ge (tgt := 42) hx hb dJx4a65c_clear_da8c8_29 (by decide) (fun c_29 => ?_) (fun c_29 => ?_)
  · skip
    have hq0 := z_vret (S := Int32) (post := fun _ => True) (wf := (fun (u : Int32) => zP E (R ++ [(q, Sum.inr (2, [.int u, .ref (eT E), .int (nI 0)]))]))) (mc := 0) (ms := 0) (cells := 0) (slots := 0) (l := l) (e := e) (R := zR 0 0 0) (below := below) (ls := ls) Cx hr (Nat.le_refl _) (Nat.le_refl _) x_6 hw trivial dJx4a65c_clear_da8c8_42
    exact hq0
  · skip
    exact absurd (nI_le (Nat.le_refl 0) (by decide)) c_29

set_option maxRecDepth 100000 in
set_option maxHeartbeats 4000000 in
/-- AbstractCollection() -/
theorem c_acinit (E : zG) (l : Launch) (w : Heap → Prop) (q : Nat) : Met l yJxa1e45_init_da8c8 wsJxa1e45_init_da8c8 (zR 1 0 0) (zPre E [.ref q] w) (zRv E w) 0 0 (eA E) := by
  refine z_of (cc := cJxa1e45_init_da8c8) (maxL := 1) (ret := none) (by decide) rfl rfl (Nat.le_of_ble_eq_true rfl) ?_
  intro p e s m below meth c ls Cx hr hnm hw hl
  have hx := Cx.1.1
  have hb := Cx.1.2.1
  have hl : lv_has ls 1 [(0, .ref q)] := hl
  refine lv_aload_n hx hb dJxa1e45_init_da8c8_0 rfl (lv_at hl 0 rfl) ?_
  refine W.objInit hx hb Cx.1.2.2.2.1 (Cx.1.2.2.2.2 _ (List.mem_of_getElem? (i := 1) rfl)) (Cx.1.2.2.2.2 (.instanceMethod objectInit) (List.mem_of_getElem? (i := 2) rfl)) (Cx.1.2.2.2.2 (.code objectInit ⟨#[0xb1]⟩ 1 none) (List.mem_of_getElem? (i := 3) rfl)) rfl (hl.1.trans Cx.1.2.2.1.symm) rfl dJxa1e45_init_da8c8_1 (Nat.le_of_ble_eq_true rfl) (Nat.le_of_ble_eq_true rfl) ?_
  refine W.eq (g2 := F0 m 4 ls _) rfl ?_
  exact (z_ve Cx hr (Nat.le_of_ble_eq_true rfl) (Nat.le_of_ble_eq_true rfl) hw dJxa1e45_init_da8c8_4)

set_option maxRecDepth 100000 in
set_option maxHeartbeats 4000000 in
/-- AbstractList() -/
theorem c_alinit0 (E : zG) (l : Launch) (R : va_W) (q : Nat) : Met l yJxc12de_init_da8c8 wsJxc12de_init_da8c8 (zR 2 0 0) (zPre E [.ref q] (zP E (R ++ [(q, Sum.inr (2, [.int 0, .null, .int 0]))]))) (zRv E (zP E (R ++ [(q, Sum.inr (2, [.int 0, .null, .int 0]))]))) 0 0 (eA E) := by
  refine z_of (cc := cJxc12de_init_da8c8) (maxL := 1) (ret := none) (by decide) rfl rfl (Nat.le_of_ble_eq_true rfl) ?_
  intro p e s m below meth c ls Cx hr hnm hw hl
  have hx := Cx.1.1
  have hb := Cx.1.2.1
  have hl : lv_has ls 1 [(0, .ref q)] := hl
  refine lv_aload_n hx hb dJxc12de_init_da8c8_0 rfl (lv_at hl 0 rfl) ?_
  refine z_goev hw.2 (z_runI Cx hw (c_acinit E l (zP E (R ++ [(q, Sum.inr (2, [.int 0, .null, .int 0]))])) q) (cwI 0 Cx.1.2.2.2.2 gJxc12de_init_da8c8_Jxa1e45_init_da8c8 rfl rfl rfl (Cx.1.2.2.2.2 (.initialized RJxa1e45) (List.mem_of_getElem? (i := 4) rfl)) (Cx.1.2.2.2.2 (.methodLink RJxc12de 1 yJxa1e45_init_da8c8) (List.mem_of_getElem? (i := 2) rfl)) (Cx.1.2.2.2.2 (.instanceMethod yJxa1e45_init_da8c8) (List.mem_of_getElem? (i := 3) rfl)) rfl (by decide +kernel) ⟨Nat.le_of_ble_eq_true rfl, Nat.le_of_ble_eq_true rfl⟩)  rfl hl.1 rfl (Nat.le_of_ble_eq_true rfl) dJxc12de_init_da8c8_1 ⟨Nat.le_of_ble_eq_true rfl, Nat.le_of_ble_eq_true rfl⟩) (fun H locs hw => ?_)
  refine lv_aload_n hx hb dJxc12de_init_da8c8_4 rfl (lv_at hl 0 rfl) ?_
  refine lv_iconst (v := 0) hx hb dJxc12de_init_da8c8_5 (by decide) ?_
  refine zr_put Cx hw (T := TJx4a65c) (N := 3) (ci := 2) (ty := .int) (fun _ h => List.mem_cons_of_mem _ (List.mem_append_right _ (h))) tyJx4a65c tyJx4a65c_ok nmJx4a65c z_m1 rfl 0 (by decide) (List.mem_of_getElem? (i := 1) rfl) (Or.inl rfl) rfl (by decide +kernel) rfl rfl (Nat.le_of_ble_eq_true rfl) dJxc12de_init_da8c8_6 (fun H locs hw2 => ?_)
  have hw : zH E (R ++ [(q, Sum.inr (2, [.int 0, .null, .int 0]))]) s H locs := zt_1 hw hw2
  exact (z_ve Cx hr (Nat.le_of_ble_eq_true rfl) (Nat.le_of_ble_eq_true rfl) hw dJxc12de_init_da8c8_9)

set_option maxRecDepth 100000 in
set_option maxHeartbeats 4000000 in
/-- ArrayList() -/
theorem c_alinit (E : zG) (l : Launch) (R : va_W) (q : Nat) : Met l yJx4a65c_init_da8c8 wsJx4a65c_init_da8c8 (zR 3 0 0) (zPre E [.ref q] (zP E (R ++ [(q, Sum.inr (2, [.int 0, .null, .int 0]))]))) (zRv E (zP E (R ++ [(q, Sum.inr (2, [.int 0, .ref (eT E), .int 0]))]))) 0 0 (eA E) := by
  refine z_of (cc := cJx4a65c_init_da8c8) (maxL := 1) (ret := none) (by decide) rfl rfl (Nat.le_of_ble_eq_true rfl) ?_
  intro p e s m below meth c ls Cx hr hnm hw hl
  have hx := Cx.1.1
  have hb := Cx.1.2.1
  have hl : lv_has ls 1 [(0, .ref q)] := hl
  refine lv_aload_n hx hb dJx4a65c_init_da8c8_0 rfl (lv_at hl 0 rfl) ?_
  refine z_goev hw.2 (z_runI Cx hw (c_alinit0 E l R q) (cwI 0 Cx.1.2.2.2.2 gJx4a65c_init_da8c8_Jxc12de_init_da8c8 rfl rfl rfl (Cx.1.2.2.2.2 (.initialized RJxc12de) (List.mem_of_getElem? (i := 5) rfl)) (Cx.1.2.2.2.2 (.methodLink RJx4a65c 1 yJxc12de_init_da8c8) (List.mem_of_getElem? (i := 3) rfl)) (Cx.1.2.2.2.2 (.instanceMethod yJxc12de_init_da8c8) (List.mem_of_getElem? (i := 4) rfl)) rfl (by decide +kernel) ⟨Nat.le_of_ble_eq_true rfl, Nat.le_of_ble_eq_true rfl⟩)  rfl hl.1 rfl (Nat.le_of_ble_eq_true rfl) dJx4a65c_init_da8c8_1 ⟨Nat.le_of_ble_eq_true rfl, Nat.le_of_ble_eq_true rfl⟩) (fun H locs hw => ?_)
  refine lv_aload_n hx hb dJx4a65c_init_da8c8_4 rfl (lv_at hl 0 rfl) ?_
  refine va_gets hx hb Cx.2.1.2.2.1.1 hw.2 Cx.1.2.2.2.1 (Cx.1.2.2.2.2 (Cond.fieldLink RJx4a65c 39 "java/util/ArrayList" "DEFAULTCAPACITY_EMPTY_ELEMENTDATA" "[Ljava/lang/Object;") (List.mem_of_getElem? (i := 1) rfl)) (fun _ h9 => h9) dJx4a65c_init_da8c8_5 ?_
  refine zr_put Cx hw (T := TJx4a65c) (N := 3) (ci := 2) (ty := .array (.object "java/lang/Object")) (fun _ h => List.mem_cons_of_mem _ (List.mem_append_right _ (h))) tyJx4a65c tyJx4a65c_ok nmJx4a65c z_m1 rfl 1 (by decide) (List.mem_of_getElem? (i := 2) rfl) (Or.inl rfl) rfl (by decide +kernel) rfl rfl (Nat.le_of_ble_eq_true rfl) dJx4a65c_init_da8c8_8 (fun H locs hw2 => ?_)
  have hw : zH E (R ++ [(q, Sum.inr (2, [.int 0, .ref (eT E), .int 0]))]) s H locs := zt_1 hw hw2
  exact (z_ve Cx hr (Nat.le_of_ble_eq_true rfl) (Nat.le_of_ble_eq_true rfl) hw dJx4a65c_init_da8c8_11)


set_option maxRecDepth 100000 in
set_option maxHeartbeats 4000000 in
/-- ArrayList.grow(int), the array is full -/
theorem c_growIF (E : zG) (l : Launch) (R : va_W) (q : Nat) (mc : Int32) (t n : Nat) (row : Nat → Option Nat) (h2 : 2 ≤ n) (hn : n ≤ 60) (hv : ∀ i, i < n → ∀ y, row i = some y → zV R y)  : Met l yJx4a65c_grow_92f84 wsJx4a65c_grow_92f84 (zR 4 1 100) (zPre E [.ref q, .int (nI (n + 1))] (zP E (R ++ [(q, Sum.inr (2, [.int mc, .ref t, .int (nI n)])), (t, zoa E n row)]))) (va_Qr (fun (_ : Nat) => True) (fun t2 a tt => a = t2 ∧ zP E (R ++ [(q, Sum.inr (2, [.int mc, .ref t2, .int (nI n)])), (t2, zoa E (n + n / 2) (va_cpy row (fun _ => none) 0 0 n))]) tt.heap) (eA E)) 1 100 (eA E) := by
  refine z_of (cc := cJx4a65c_grow_92f84) (maxL := 4) (ret := (some (.array (.object "java/lang/Object")))) (by decide) rfl rfl (Nat.le_of_ble_eq_true rfl) ?_
  intro p e s m below meth c ls Cx hr hnm hw hl
  have hx := Cx.1.1
  have hb := Cx.1.2.1
  have hl : lv_has ls 4 [(0, .ref q), (1, .int (nI (n + 1)))] := hl
  refine lv_aload_n hx hb dJx4a65c_grow_92f84_0 rfl (lv_at hl 0 rfl) ?_
  refine zr_get Cx hw (T := TJx4a65c) (N := 3) (ci := 2) (fun _ h => List.mem_cons_of_mem _ (List.mem_append_right _ (h))) z_m2 rfl 1 (by decide) (List.mem_of_getElem? (i := 1) rfl) (Or.inl rfl) rfl dJx4a65c_grow_92f84_1 ?_
  refine zr_alen Cx hw z_m3 dJx4a65c_grow_92f84_4 ?_
  refine lv_istore_n hx hb dJx4a65c_grow_92f84_5 rfl hl (by decide) rfl (fun ls hl => ?_)
  have hl : lv_has ls 4 [(2, _), (0, .ref q), (1, .int (nI (n + 1)))] := hl
  refine lv_iload_n hx hb dJx4a65c_grow_92f84_6 rfl (lv_at hl 0 rfl) ?_
  refine lv_if_gt (tgt := 20) hx hb dJx4a65c_grow_92f84_7 (by decide) (fun c_7 => ?_) (fun c_7 => ?_)
  · skip
    refine lv_iload_n hx hb dJx4a65c_grow_92f84_20 rfl (lv_at hl 0 rfl) ?_
    refine lv_iload_n hx hb dJx4a65c_grow_92f84_21 rfl (lv_at hl 2 rfl) ?_
    refine lv_iload_n hx hb dJx4a65c_grow_92f84_22 rfl (lv_at hl 0 rfl) ?_
    refine lv_isub hx hb dJx4a65c_grow_92f84_23 ?_
    refine lv_topi (fun x_23 ex_23 => ?_)
    have e_23 : x_23 = nI 1 := by
      rw [ex_23, pk_sub (by omega)]
      rw [Nat.add_sub_cancel_left]
    subst e_23
    refine lv_iload_n hx hb dJx4a65c_grow_92f84_24 rfl (lv_at hl 0 rfl) ?_
    refine lv_iconst (v := 1) hx hb dJx4a65c_grow_92f84_25 (by decide) ?_
    refine lv_ishr hx hb dJx4a65c_grow_92f84_26 ?_
    refine lv_topi (fun x_26 ex_26 => ?_)
    have e_26 : x_26 = nI (n / 2) := by
      rw [ex_26]
      have k := pk_shrN (n := n) (by omega) ((1 : Int32) &&& 31) 1 (by decide)
      rw [Nat.pow_one] at k
      exact k
    subst e_26
    refine z_goe hw.2 (z_runS Cx hw (c_newLen E l (zP E (R ++ [(q, Sum.inr (2, [.int mc, .ref t, .int (nI n)])), (t, zoa E n row)])) n h2 (by omega)) (va_cwS 3 Cx.1.2.2.2.2 gJx4a65c_grow_92f84_J8_newLength_cabcc rfl rfl rfl (by decide +kernel) ⟨Nat.le_of_ble_eq_true rfl, Nat.le_of_ble_eq_true rfl⟩)  rfl hl.1 rfl (Nat.le_of_ble_eq_true rfl) dJx4a65c_grow_92f84_27 ⟨Nat.le_of_ble_eq_true rfl, Nat.le_of_ble_eq_true rfl⟩) (fun H locs hw => ?_)
    refine lv_istore_n hx hb dJx4a65c_grow_92f84_30 rfl hl (by decide) rfl (fun ls hl => ?_)
    have hl : lv_has ls 4 [(3, _), (2, _), (0, .ref q), (1, .int (nI (n + 1)))] := hl
    refine lv_aload_n hx hb dJx4a65c_grow_92f84_31 rfl (lv_at hl 2 rfl) ?_
    refine lv_aload_n hx hb dJx4a65c_grow_92f84_32 rfl (lv_at hl 2 rfl) ?_
    refine zr_get Cx hw (T := TJx4a65c) (N := 3) (ci := 2) (fun _ h => List.mem_cons_of_mem _ (List.mem_append_right _ (h))) z_m2 rfl 1 (by decide) (List.mem_of_getElem? (i := 1) rfl) (Or.inl rfl) rfl dJx4a65c_grow_92f84_33 ?_
    refine lv_iload_n hx hb dJx4a65c_grow_92f84_36 rfl (lv_at hl 0 rfl) ?_
    refine z_gor (pr := fun (t2 : Nat) a => a = t2) (wf := fun t2 => zP E ((R ++ [(q, Sum.inr (2, [.int mc, .ref t, .int (nI n)])), (t, zoa E n row)]) ++ [(t2, zoa E (n + n / 2) (va_cpy row (fun _ => none) 0 0 n))])) hw.2 (z_runS Cx hw (c_copyOf2 E l _ t n (n + n / 2) row z_m3 (by omega) (by omega) (fun i hi y hy => (hv i hi y hy).app)) (va_cwS 2 Cx.1.2.2.2.2 gJx4a65c_grow_92f84_J7_copyOf_1904c rfl rfl rfl (by decide +kernel) ⟨Nat.le_of_ble_eq_true rfl, Nat.le_of_ble_eq_true rfl⟩)  rfl hl.1 rfl (Nat.le_of_ble_eq_true rfl) dJx4a65c_grow_92f84_37 ⟨Nat.le_of_ble_eq_true rfl, Nat.le_of_ble_eq_true rfl⟩) (fun t2 ra H locs _ hra hw => ?_)
    subst hra
    have hw : zH E (R ++ [(q, Sum.inr (2, [.int mc, .ref t, .int (nI n)])), (ra, zoa E (n + n / 2) (va_cpy row (fun _ => none) 0 0 n))]) s H _ := zd_3 hw
    refine lv_dup_x1 hx hb dJx4a65c_grow_92f84_40 rfl rfl ?_
    refine zr_put Cx hw (T := TJx4a65c) (N := 3) (ci := 2) (ty := .array (.object "java/lang/Object")) (fun _ h => List.mem_cons_of_mem _ (List.mem_append_right _ (h))) tyJx4a65c tyJx4a65c_ok nmJx4a65c z_m2 rfl 1 (by decide) (List.mem_of_getElem? (i := 1) rfl) (Or.inl rfl) rfl (by decide +kernel) rfl rfl (Nat.le_of_ble_eq_true rfl) dJx4a65c_grow_92f84_41 (fun H locs hw2 => ?_)
    have hw : zH E (R ++ [(q, Sum.inr (2, [.int mc, .ref ra, .int (nI n)])), (ra, zoa E (n + n / 2) (va_cpy row (fun _ => none) 0 0 n))]) s H locs := zt_2 hw hw2
    exact z_aret (pr := fun (t2 : Nat) a => a = t2) (wf := (fun t2 => zP E (R ++ [(q, Sum.inr (2, [.int mc, .ref t2, .int (nI n)])), (t2, zoa E (n + n / 2) (va_cpy row (fun _ => none) 0 0 n))]))) Cx hr (Or.inr ⟨_, rfl⟩) (Nat.le_of_ble_eq_true rfl) (Nat.le_of_ble_eq_true rfl) ra hw trivial rfl dJx4a65c_grow_92f84_44
  · skip
    exact absurd (show nI 0 < nI n from nI_lt (by omega) (by omega)) c_7

set_option maxRecDepth 100000 in
set_option maxHeartbeats 4000000 in
/-- ArrayList.grow(int), the first of all -/
theorem c_growIE (E : zG) (l : Launch) (R : va_W) (q : Nat) (mc : Int32)  : Met l yJx4a65c_grow_92f84 wsJx4a65c_grow_92f84 (zR 4 1 100) (zPre E [.ref q, .int (nI 1)] (zP E (R ++ [(q, Sum.inr (2, [.int mc, .ref (eT E), .int 0]))]))) (va_Qr (fun (_ : Nat) => True) (fun t2 a tt => a = t2 ∧ zP E (R ++ [(q, Sum.inr (2, [.int mc, .ref t2, .int 0])), (t2, zoa E 10 (fun _ => none))]) tt.heap) (eA E)) 1 100 (eA E) := by
  refine z_of (cc := cJx4a65c_grow_92f84) (maxL := 4) (ret := (some (.array (.object "java/lang/Object")))) (by decide) rfl rfl (Nat.le_of_ble_eq_true rfl) ?_
  intro p e s m below meth c ls Cx hr hnm hw hl
  have hx := Cx.1.1
  have hb := Cx.1.2.1
  have hl : lv_has ls 4 [(0, .ref q), (1, .int (nI 1))] := hl
  refine lv_aload_n hx hb dJx4a65c_grow_92f84_0 rfl (lv_at hl 0 rfl) ?_
  refine zr_get Cx hw (T := TJx4a65c) (N := 3) (ci := 2) (fun _ h => List.mem_cons_of_mem _ (List.mem_append_right _ (h))) z_m1 rfl 1 (by decide) (List.mem_of_getElem? (i := 1) rfl) (Or.inl rfl) rfl dJx4a65c_grow_92f84_1 ?_
  refine zr_alen0 Cx hw dJx4a65c_grow_92f84_4 ?_
  refine lv_istore_n hx hb dJx4a65c_grow_92f84_5 rfl hl (by decide) rfl (fun ls hl => ?_)
  have hl : lv_has ls 4 [(2, _), (0, .ref q), (1, .int (nI 1))] := hl
  refine lv_iload_n hx hb dJx4a65c_grow_92f84_6 rfl (lv_at hl 0 rfl) ?_
  refine lv_if_gt (tgt := 20) hx hb dJx4a65c_grow_92f84_7 (by decide) (fun c_7 => ?_) (fun c_7 => ?_)
  · skip
    exact absurd c_7 (by decide)
  · skip
    refine lv_aload_n hx hb dJx4a65c_grow_92f84_10 rfl (lv_at hl 1 rfl) ?_
    refine zr_get Cx hw (T := TJx4a65c) (N := 3) (ci := 2) (fun _ h => List.mem_cons_of_mem _ (List.mem_append_right _ (h))) z_m1 rfl 1 (by decide) (List.mem_of_getElem? (i := 1) rfl) (Or.inl rfl) rfl dJx4a65c_grow_92f84_11 ?_
    refine va_gets hx hb Cx.2.1.2.2.1.1 hw.2 Cx.1.2.2.2.1 (Cx.1.2.2.2.2 (Cond.fieldLink RJx4a65c 39 "java/util/ArrayList" "DEFAULTCAPACITY_EMPTY_ELEMENTDATA" "[Ljava/lang/Object;") (List.mem_of_getElem? (i := 2) rfl)) (fun _ h9 => h9) dJx4a65c_grow_92f84_14 ?_
    refine lv_acmp_eq (rx := some (eT E)) (ry := some (eT E)) (tgt := 45) hx hb dJx4a65c_grow_92f84_17 (by decide) (fun _ => ?_) (fun c_17 => absurd rfl c_17)
    refine lv_aload_n hx hb dJx4a65c_grow_92f84_45 rfl (lv_at hl 1 rfl) ?_
    refine lv_bipush (v := nI 10) hx hb dJx4a65c_grow_92f84_46 rfl ?_
    refine lv_iload_n hx hb dJx4a65c_grow_92f84_48 rfl (lv_at hl 2 rfl) ?_
    refine va_mmax hx hb (Cx.1.2.2.1.trans hl.1.symm) Cx.1.2.2.2.1 (Cx.1.2.2.2.2 (.methodLink RJx4a65c 79 Lib.Math.max.name) (List.mem_of_getElem? (i := 3) rfl)) (Cx.1.2.2.2.2 (.static Lib.Math.max.name) (List.mem_of_getElem? (i := 4) rfl)) (Cx.1.2.2.2.2 (.initialized "java/lang/Math") (List.mem_of_getElem? (i := 5) rfl)) (Cx.1.2.2.2.2 (.code Lib.Math.max.name Lib.Math.max.code 2 (some .int)) (List.mem_of_getElem? (i := 6) rfl)) (Nat.le_of_ble_eq_true rfl) (Nat.le_of_ble_eq_true rfl) (Nat.le_of_ble_eq_true rfl) (Nat.le_of_ble_eq_true rfl) dJx4a65c_grow_92f84_49 ?_
    have e_49 : (if nI 10 < nI 1 then nI 1 else nI 10) = nI 10 := if_neg (nI_nlt (Nat.le_of_ble_eq_true rfl) (Nat.le_of_ble_eq_true rfl))
    rw [e_49]
    refine zr_newq Cx hw (N' := 10) (List.mem_of_getElem? (i := 7) rfl) (Nat.le_of_ble_eq_true rfl) (Nat.le_of_ble_eq_true rfl) (by decide) dJx4a65c_grow_92f84_52 (fun t2 H hfr hw => ?_)
    have hw : zH E (R ++ [(q, Sum.inr (2, [.int mc, .ref (eT E), .int 0])), (t2, zoa E 10 (fun _ => none))]) s H _ := zd_2 hw
    refine lv_dup_x1 hx hb dJx4a65c_grow_92f84_55 rfl rfl ?_
    refine zr_put Cx hw (T := TJx4a65c) (N := 3) (ci := 2) (ty := .array (.object "java/lang/Object")) (fun _ h => List.mem_cons_of_mem _ (List.mem_append_right _ (h))) tyJx4a65c tyJx4a65c_ok nmJx4a65c z_m2 rfl 1 (by decide) (List.mem_of_getElem? (i := 1) rfl) (Or.inl rfl) rfl (by decide +kernel) rfl rfl (Nat.le_of_ble_eq_true rfl) dJx4a65c_grow_92f84_56 (fun H locs hw2 => ?_)
    have hw : zH E (R ++ [(q, Sum.inr (2, [.int mc, .ref t2, .int 0])), (t2, zoa E 10 (fun _ => none))]) s H locs := zt_2 hw hw2
    exact z_aret (pr := fun (t2 : Nat) a => a = t2) (wf := (fun t2 => zP E (R ++ [(q, Sum.inr (2, [.int mc, .ref t2, .int 0])), (t2, zoa E 10 (fun _ => none))]))) Cx hr (Or.inr ⟨_, rfl⟩) (Nat.le_of_ble_eq_true rfl) (Nat.le_of_ble_eq_true rfl) t2 hw trivial rfl dJx4a65c_grow_92f84_59

set_option maxRecDepth 100000 in
set_option maxHeartbeats 4000000 in
/-- ArrayList.grow(), full -/
theorem c_growF (E : zG) (l : Launch) (R : va_W) (q : Nat) (mc : Int32) (t n : Nat) (row : Nat → Option Nat) (h2 : 2 ≤ n) (hn : n ≤ 60) (hv : ∀ i, i < n → ∀ y, row i = some y → zV R y)  : Met l yJx4a65c_grow_d5877 wsJx4a65c_grow_d5877 (zR 5 1 100) (zPre E [.ref q] (zP E (R ++ [(q, Sum.inr (2, [.int mc, .ref t, .int (nI n)])), (t, zoa E n row)]))) (va_Qr (fun (_ : Nat) => True) (fun t2 a tt => a = t2 ∧ zP E (R ++ [(q, Sum.inr (2, [.int mc, .ref t2, .int (nI n)])), (t2, zoa E (n + n / 2) (va_cpy row (fun _ => none) 0 0 n))]) tt.heap) (eA E)) 1 100 (eA E) := by
  refine z_of (cc := cJx4a65c_grow_d5877) (maxL := 1) (ret := (some (.array (.object "java/lang/Object")))) (by decide) rfl rfl (Nat.le_of_ble_eq_true rfl) ?_
  intro p e s m below meth c ls Cx hr hnm hw hl
  have hx := Cx.1.1
  have hb := Cx.1.2.1
  have hl : lv_has ls 1 [(0, .ref q)] := hl
  refine lv_aload_n hx hb dJx4a65c_grow_d5877_0 rfl (lv_at hl 0 rfl) ?_
  refine lv_aload_n hx hb dJx4a65c_grow_d5877_1 rfl (lv_at hl 0 rfl) ?_
  refine zr_get Cx hw (T := TJx4a65c) (N := 3) (ci := 2) (fun _ h => List.mem_cons_of_mem _ (List.mem_append_right _ (h))) z_m2 rfl 2 (by decide) (List.mem_of_getElem? (i := 1) rfl) (Or.inl rfl) rfl dJx4a65c_grow_d5877_2 ?_
  refine lv_iconst (v := 1) hx hb dJx4a65c_grow_d5877_5 (by decide) ?_
  refine lv_iadd hx hb dJx4a65c_grow_d5877_6 ?_
  refine lv_topi (fun x_6 ex_6 => ?_)
  have e_6 : x_6 = nI (n + 1) := by rw [ex_6]; exact nI_1 n
  subst e_6
  refine z_gor (pr := fun (t2 : Nat) a => a = t2) (wf := (fun t2 => zP E (R ++ [(q, Sum.inr (2, [.int mc, .ref t2, .int (nI n)])), (t2, zoa E (n + n / 2) (va_cpy row (fun _ => none) 0 0 n))]))) hw.2 (z_runV Cx hw (c_growIF E l R q mc t n row h2 hn hv) (cwV 1 Cx.1.2.2.2.2 gJx4a65c_grow_d5877_Jx4a65c_grow_92f84 rfl rfl rfl (by decide +kernel) ⟨Nat.le_of_ble_eq_true rfl, Nat.le_of_ble_eq_true rfl⟩) (zr_recv Cx hw (r := (RJx4a65c, TJx4a65c, 3)) z_m2 rfl) rfl hl.1 rfl (Nat.le_of_ble_eq_true rfl) dJx4a65c_grow_d5877_7 ⟨Nat.le_of_ble_eq_true rfl, Nat.le_of_ble_eq_true rfl⟩) (fun t2 ra H locs _ hra hw => ?_)
  subst hra
  exact z_aret (pr := fun (t2 : Nat) a => a = t2) (wf := (fun t2 => zP E (R ++ [(q, Sum.inr (2, [.int mc, .ref t2, .int (nI n)])), (t2, zoa E (n + n / 2) (va_cpy row (fun _ => none) 0 0 n))]))) Cx hr (Or.inr ⟨_, rfl⟩) (Nat.le_of_ble_eq_true rfl) (Nat.le_of_ble_eq_true rfl) ra hw trivial rfl dJx4a65c_grow_d5877_10

set_option maxRecDepth 100000 in
set_option maxHeartbeats 4000000 in
/-- ArrayList.grow(), the first -/
theorem c_growE (E : zG) (l : Launch) (R : va_W) (q : Nat) (mc : Int32)  : Met l yJx4a65c_grow_d5877 wsJx4a65c_grow_d5877 (zR 5 1 100) (zPre E [.ref q] (zP E (R ++ [(q, Sum.inr (2, [.int mc, .ref (eT E), .int 0]))]))) (va_Qr (fun (_ : Nat) => True) (fun t2 a tt => a = t2 ∧ zP E (R ++ [(q, Sum.inr (2, [.int mc, .ref t2, .int 0])), (t2, zoa E 10 (fun _ => none))]) tt.heap) (eA E)) 1 100 (eA E) := by
  refine z_of (cc := cJx4a65c_grow_d5877) (maxL := 1) (ret := (some (.array (.object "java/lang/Object")))) (by decide) rfl rfl (Nat.le_of_ble_eq_true rfl) ?_
  intro p e s m below meth c ls Cx hr hnm hw hl
  have hx := Cx.1.1
  have hb := Cx.1.2.1
  have hl : lv_has ls 1 [(0, .ref q)] := hl
  refine lv_aload_n hx hb dJx4a65c_grow_d5877_0 rfl (lv_at hl 0 rfl) ?_
  refine lv_aload_n hx hb dJx4a65c_grow_d5877_1 rfl (lv_at hl 0 rfl) ?_
  refine zr_get Cx hw (T := TJx4a65c) (N := 3) (ci := 2) (fun _ h => List.mem_cons_of_mem _ (List.mem_append_right _ (h))) z_m1 rfl 2 (by decide) (List.mem_of_getElem? (i := 1) rfl) (Or.inl rfl) rfl dJx4a65c_grow_d5877_2 ?_
  refine lv_iconst (v := 1) hx hb dJx4a65c_grow_d5877_5 (by decide) ?_
  refine lv_iadd hx hb dJx4a65c_grow_d5877_6 ?_
  refine lv_topi (fun x_6 ex_6 => ?_)
  have e_6 : x_6 = nI 1 := by rw [ex_6]; rfl
  subst e_6
  refine z_gor (pr := fun (t2 : Nat) a => a = t2) (wf := (fun t2 => zP E (R ++ [(q, Sum.inr (2, [.int mc, .ref t2, .int 0])), (t2, zoa E 10 (fun _ => none))]))) hw.2 (z_runV Cx hw (c_growIE E l R q mc) (cwV 1 Cx.1.2.2.2.2 gJx4a65c_grow_d5877_Jx4a65c_grow_92f84 rfl rfl rfl (by decide +kernel) ⟨Nat.le_of_ble_eq_true rfl, Nat.le_of_ble_eq_true rfl⟩) (zr_recv Cx hw (r := (RJx4a65c, TJx4a65c, 3)) z_m1 rfl) rfl hl.1 rfl (Nat.le_of_ble_eq_true rfl) dJx4a65c_grow_d5877_7 ⟨Nat.le_of_ble_eq_true rfl, Nat.le_of_ble_eq_true rfl⟩) (fun t2 ra H locs _ hra hw => ?_)
  subst hra
  exact z_aret (pr := fun (t2 : Nat) a => a = t2) (wf := (fun t2 => zP E (R ++ [(q, Sum.inr (2, [.int mc, .ref t2, .int 0])), (t2, zoa E 10 (fun _ => none))]))) Cx hr (Or.inr ⟨_, rfl⟩) (Nat.le_of_ble_eq_true rfl) (Nat.le_of_ble_eq_true rfl) ra hw trivial rfl dJx4a65c_grow_d5877_10

set_option maxRecDepth 100000 in
set_option maxHeartbeats 4000000 in
/-- ArrayList.add(e, array, size), room is there -/
theorem c_add3R (E : zG) (l : Launch) (R : va_W) (q : Nat) (mc : Int32) (t n k : Nat) (row : Nat → Option Nat) (hn : n < k) (hk : k ≤ 100) (v : Nat) (hvv : zV R v)  : Met l yJx4a65c_add_72be8 wsJx4a65c_add_72be8 (zR 6 1 100) (zPre E [.ref q, .ref v, .ref t, .int (nI n)] (zP E (R ++ [(q, Sum.inr (2, [.int mc, .ref t, .int (nI n)])), (t, zoa E k row)]))) (zRv E (zP E (R ++ [(q, Sum.inr (2, [.int mc, .ref t, .int (nI (n + 1))])), (t, zoa E k (va_up row n (some v)))]))) 1 100 (eA E) := by
  refine z_of (cc := cJx4a65c_add_72be8) (maxL := 4) (ret := none) (by decide) rfl rfl (Nat.le_of_ble_eq_true rfl) ?_
  intro p e s m below meth c ls Cx hr hnm hw hl
  have hx := Cx.1.1
  have hb := Cx.1.2.1
  have hl : lv_has ls 4 [(0, .ref q), (1, .ref v), (2, .ref t), (3, .int (nI n))] := hl
  refine lv_iload_n hx hb dJx4a65c_add_72be8_0 rfl (lv_at hl 3 rfl) ?_
  refine lv_aload_n hx hb dJx4a65c_add_72be8_1 rfl (lv_at hl 2 rfl) ?_
  refine zr_alen Cx hw z_m3 dJx4a65c_add_72be8_2 ?_
  refine lv_icmp_ne (tgt := 11) hx hb dJx4a65c_add_72be8_3 (by decide) (fun c_3 => ?_) (fun c_3 => ?_)
  · skip
    refine lv_aload_n hx hb dJx4a65c_add_72be8_11 rfl (lv_at hl 2 rfl) ?_
    refine lv_iload_n hx hb dJx4a65c_add_72be8_12 rfl (lv_at hl 3 rfl) ?_
    refine lv_aload_n hx hb dJx4a65c_add_72be8_13 rfl (lv_at hl 1 rfl) ?_
    refine zr_aast Cx hw z_m3 hn (by omega) hvv.app dJx4a65c_add_72be8_14 (fun H locs hw2 => ?_)
    have hw : zH E (R ++ [(q, Sum.inr (2, [.int mc, .ref t, .int (nI n)])), (t, zoa E k (va_up row n (some v)))]) s H locs := zt_3 hw hw2
    refine lv_aload_n hx hb dJx4a65c_add_72be8_15 rfl (lv_at hl 0 rfl) ?_
    refine lv_iload_n hx hb dJx4a65c_add_72be8_16 rfl (lv_at hl 3 rfl) ?_
    refine lv_iconst (v := 1) hx hb dJx4a65c_add_72be8_17 (by decide) ?_
    refine lv_iadd hx hb dJx4a65c_add_72be8_18 ?_
    refine lv_topi (fun x_18 ex_18 => ?_)
    have e_18 : x_18 = nI (n + 1) := by rw [ex_18]; exact nI_1 n
    subst e_18
    refine zr_put Cx hw (T := TJx4a65c) (N := 3) (ci := 2) (ty := .int) (fun _ h => List.mem_cons_of_mem _ (List.mem_append_right _ (h))) tyJx4a65c tyJx4a65c_ok nmJx4a65c z_m2 rfl 2 (by decide) (List.mem_of_getElem? (i := 1) rfl) (Or.inl rfl) rfl (by decide +kernel) rfl rfl (Nat.le_of_ble_eq_true rfl) dJx4a65c_add_72be8_19 (fun H locs hw2 => ?_)
    have hw : zH E (R ++ [(q, Sum.inr (2, [.int mc, .ref t, .int (nI (n + 1))])), (t, zoa E k (va_up row n (some v)))]) s H locs := zt_2 hw hw2
    exact (z_ve Cx hr (Nat.le_of_ble_eq_true rfl) (Nat.le_of_ble_eq_true rfl) hw dJx4a65c_add_72be8_22)
  · skip
    exact absurd ((nI_eq (by omega) (by omega)).mp c_3) (by omega)

set_option maxRecDepth 100000 in
set_option maxHeartbeats 4000000 in
/-- .. the array is full -/
theorem c_add3F (E : zG) (l : Launch) (R : va_W) (q : Nat) (mc : Int32) (t n : Nat) (row : Nat → Option Nat) (h2 : 2 ≤ n) (hn : n ≤ 60) (hv : ∀ i, i < n → ∀ y, row i = some y → zV R y) (v : Nat) (hvv : zV R v)  : Met l yJx4a65c_add_72be8 wsJx4a65c_add_72be8 (zR 6 1 100) (zPre E [.ref q, .ref v, .ref t, .int (nI n)] (zP E (R ++ [(q, Sum.inr (2, [.int mc, .ref t, .int (nI n)])), (t, zoa E n row)]))) (va_Qv (fun (_ : Nat) => True) (fun t2 tt => zP E (R ++ [(q, Sum.inr (2, [.int mc, .ref t2, .int (nI (n + 1))])), (t2, zoa E (n + n / 2) (va_up (va_cpy row (fun _ => none) 0 0 n) n (some v)))]) tt.heap) (eA E)) 1 100 (eA E) := by
  refine z_of (cc := cJx4a65c_add_72be8) (maxL := 4) (ret := none) (by decide) rfl rfl (Nat.le_of_ble_eq_true rfl) ?_
  intro p e s m below meth c ls Cx hr hnm hw hl
  have hx := Cx.1.1
  have hb := Cx.1.2.1
  have hl : lv_has ls 4 [(0, .ref q), (1, .ref v), (2, .ref t), (3, .int (nI n))] := hl
  refine lv_iload_n hx hb dJx4a65c_add_72be8_0 rfl (lv_at hl 3 rfl) ?_
  refine lv_aload_n hx hb dJx4a65c_add_72be8_1 rfl (lv_at hl 2 rfl) ?_
  refine zr_alen Cx hw z_m3 dJx4a65c_add_72be8_2 ?_
  refine lv_icmp_ne (tgt := 11) hx hb dJx4a65c_add_72be8_3 (by decide) (fun c_3 => ?_) (fun c_3 => ?_)
  · skip
    exact absurd rfl c_3
  · skip
    refine lv_aload_n hx hb dJx4a65c_add_72be8_6 rfl (lv_at hl 0 rfl) ?_
    refine z_gor (pr := fun (t2 : Nat) a => a = t2) (wf := (fun t2 => zP E (R ++ [(q, Sum.inr (2, [.int mc, .ref t2, .int (nI n)])), (t2, zoa E (n + n / 2) (va_cpy row (fun _ => none) 0 0 n))]))) hw.2 (z_runV Cx hw (c_growF E l R q mc t n row h2 hn hv) (cwV 0 Cx.1.2.2.2.2 gJx4a65c_add_72be8_Jx4a65c_grow_d5877 rfl rfl rfl (by decide +kernel) ⟨Nat.le_of_ble_eq_true rfl, Nat.le_of_ble_eq_true rfl⟩) (zr_recv Cx hw (r := (RJx4a65c, TJx4a65c, 3)) z_m2 rfl) rfl hl.1 rfl (Nat.le_of_ble_eq_true rfl) dJx4a65c_add_72be8_7 ⟨Nat.le_of_ble_eq_true rfl, Nat.le_of_ble_eq_true rfl⟩) (fun t2 ra H locs _ hra hw => ?_)
    subst hra
    refine lv_astore_n hx hb dJx4a65c_add_72be8_10 rfl hl (by decide) rfl (fun ls hl => ?_)
    have hl : lv_has ls 4 [(2, .ref ra), (0, .ref q), (1, .ref v), (3, .int (nI n))] := hl
    refine lv_aload_n hx hb dJx4a65c_add_72be8_11 rfl (lv_at hl 0 rfl) ?_
    refine lv_iload_n hx hb dJx4a65c_add_72be8_12 rfl (lv_at hl 3 rfl) ?_
    refine lv_aload_n hx hb dJx4a65c_add_72be8_13 rfl (lv_at hl 2 rfl) ?_
    refine zr_aast Cx hw z_m3 (show n < n + n / 2 by omega) (by omega) hvv.app dJx4a65c_add_72be8_14 (fun H locs hw2 => ?_)
    have hw : zH E (R ++ [(q, Sum.inr (2, [.int mc, .ref ra, .int (nI n)])), (ra, zoa E (n + n / 2) (va_up (va_cpy row (fun _ => none) 0 0 n) n (some v)))]) s H locs := zt_3 hw hw2
    refine lv_aload_n hx hb dJx4a65c_add_72be8_15 rfl (lv_at hl 1 rfl) ?_
    refine lv_iload_n hx hb dJx4a65c_add_72be8_16 rfl (lv_at hl 3 rfl) ?_
    refine lv_iconst (v := 1) hx hb dJx4a65c_add_72be8_17 (by decide) ?_
    refine lv_iadd hx hb dJx4a65c_add_72be8_18 ?_
    refine lv_topi (fun x_18 ex_18 => ?_)
    have e_18 : x_18 = nI (n + 1) := by rw [ex_18]; exact nI_1 n
    subst e_18
    refine zr_put Cx hw (T := TJx4a65c) (N := 3) (ci := 2) (ty := .int) (fun _ h => List.mem_cons_of_mem _ (List.mem_append_right _ (h))) tyJx4a65c tyJx4a65c_ok nmJx4a65c z_m2 rfl 2 (by decide) (List.mem_of_getElem? (i := 1) rfl) (Or.inl rfl) rfl (by decide +kernel) rfl rfl (Nat.le_of_ble_eq_true rfl) dJx4a65c_add_72be8_19 (fun H locs hw2 => ?_)
    have hw : zH E (R ++ [(q, Sum.inr (2, [.int mc, .ref ra, .int (nI (n + 1))])), (ra, zoa E (n + n / 2) (va_up (va_cpy row (fun _ => none) 0 0 n) n (some v)))]) s H locs := zt_2 hw hw2
    exact z_vret (wf := (fun t2 => zP E (R ++ [(q, Sum.inr (2, [.int mc, .ref t2, .int (nI (n + 1))])), (t2, zoa E (n + n / 2) (va_up (va_cpy row (fun _ => none) 0 0 n) n (some v)))]))) Cx hr (Nat.le_of_ble_eq_true rfl) (Nat.le_of_ble_eq_true rfl) ra hw trivial dJx4a65c_add_72be8_22

set_option maxRecDepth 100000 in
set_option maxHeartbeats 4000000 in
/-- .. the first -/
theorem c_add3E (E : zG) (l : Launch) (R : va_W) (q : Nat) (mc : Int32) (v : Nat) (hvv : zV R v)  : Met l yJx4a65c_add_72be8 wsJx4a65c_add_72be8 (zR 6 1 100) (zPre E [.ref q, .ref v, .ref (eT E), .int (nI 0)] (zP E (R ++ [(q, Sum.inr (2, [.int mc, .ref (eT E), .int 0]))]))) (va_Qv (fun (_ : Nat) => True) (fun t2 tt => zP E (R ++ [(q, Sum.inr (2, [.int mc, .ref t2, .int (nI 1)])), (t2, zoa E 10 (va_up (fun _ => none) 0 (some v)))]) tt.heap) (eA E)) 1 100 (eA E) := by
  refine z_of (cc := cJx4a65c_add_72be8) (maxL := 4) (ret := none) (by decide) rfl rfl (Nat.le_of_ble_eq_true rfl) ?_
  intro p e s m below meth c ls Cx hr hnm hw hl
  have hx := Cx.1.1
  have hb := Cx.1.2.1
  have hl : lv_has ls 4 [(0, .ref q), (1, .ref v), (2, .ref (eT E)), (3, .int (nI 0))] := hl
  refine lv_iload_n hx hb dJx4a65c_add_72be8_0 rfl (lv_at hl 3 rfl) ?_
  refine lv_aload_n hx hb dJx4a65c_add_72be8_1 rfl (lv_at hl 2 rfl) ?_
  refine zr_alen0 Cx hw dJx4a65c_add_72be8_2 ?_
  refine lv_icmp_ne (tgt := 11) hx hb dJx4a65c_add_72be8_3 (by decide) (fun c_3 => ?_) (fun c_3 => ?_)
  · skip
    exact absurd rfl c_3
  · skip
    refine lv_aload_n hx hb dJx4a65c_add_72be8_6 rfl (lv_at hl 0 rfl) ?_
    refine z_gor (pr := fun (t2 : Nat) a => a = t2) (wf := (fun t2 => zP E (R ++ [(q, Sum.inr (2, [.int mc, .ref t2, .int 0])), (t2, zoa E 10 (fun _ => none))]))) hw.2 (z_runV Cx hw (c_growE E l R q mc) (cwV 0 Cx.1.2.2.2.2 gJx4a65c_add_72be8_Jx4a65c_grow_d5877 rfl rfl rfl (by decide +kernel) ⟨Nat.le_of_ble_eq_true rfl, Nat.le_of_ble_eq_true rfl⟩) (zr_recv Cx hw (r := (RJx4a65c, TJx4a65c, 3)) z_m1 rfl) rfl hl.1 rfl (Nat.le_of_ble_eq_true rfl) dJx4a65c_add_72be8_7 ⟨Nat.le_of_ble_eq_true rfl, Nat.le_of_ble_eq_true rfl⟩) (fun t2 ra H locs _ hra hw => ?_)
    subst hra
    refine lv_astore_n hx hb dJx4a65c_add_72be8_10 rfl hl (by decide) rfl (fun ls hl => ?_)
    have hl : lv_has ls 4 [(2, .ref ra), (0, .ref q), (1, .ref v), (3, .int (nI 0))] := hl
    refine lv_aload_n hx hb dJx4a65c_add_72be8_11 rfl (lv_at hl 0 rfl) ?_
    refine lv_iload_n hx hb dJx4a65c_add_72be8_12 rfl (lv_at hl 3 rfl) ?_
    refine lv_aload_n hx hb dJx4a65c_add_72be8_13 rfl (lv_at hl 2 rfl) ?_
    refine zr_aast Cx hw z_m3 (show 0 < 10 by omega) (by omega) hvv.app dJx4a65c_add_72be8_14 (fun H locs hw2 => ?_)
    have hw : zH E (R ++ [(q, Sum.inr (2, [.int mc, .ref ra, .int 0])), (ra, zoa E 10 (va_up (fun _ => none) 0 (some v)))]) s H locs := zt_3 hw hw2
    refine lv_aload_n hx hb dJx4a65c_add_72be8_15 rfl (lv_at hl 1 rfl) ?_
    refine lv_iload_n hx hb dJx4a65c_add_72be8_16 rfl (lv_at hl 3 rfl) ?_
    refine lv_iconst (v := 1) hx hb dJx4a65c_add_72be8_17 (by decide) ?_
    refine lv_iadd hx hb dJx4a65c_add_72be8_18 ?_
    refine lv_topi (fun x_18 ex_18 => ?_)
    have e_18 : x_18 = nI 1 := by rw [ex_18]; rfl
    subst e_18
    refine zr_put Cx hw (T := TJx4a65c) (N := 3) (ci := 2) (ty := .int) (fun _ h => List.mem_cons_of_mem _ (List.mem_append_right _ (h))) tyJx4a65c tyJx4a65c_ok nmJx4a65c z_m2 rfl 2 (by decide) (List.mem_of_getElem? (i := 1) rfl) (Or.inl rfl) rfl (by decide +kernel) rfl rfl (Nat.le_of_ble_eq_true rfl) dJx4a65c_add_72be8_19 (fun H locs hw2 => ?_)
    have hw : zH E (R ++ [(q, Sum.inr (2, [.int mc, .ref ra, .int (nI 1)])), (ra, zoa E 10 (va_up (fun _ => none) 0 (some v)))]) s H locs := zt_2 hw hw2
    exact z_vret (wf := (fun t2 => zP E (R ++ [(q, Sum.inr (2, [.int mc, .ref t2, .int (nI 1)])), (t2, zoa E 10 (va_up (fun _ => none) 0 (some v)))]))) Cx hr (Nat.le_of_ble_eq_true rfl) (Nat.le_of_ble_eq_true rfl) ra hw trivial dJx4a65c_add_72be8_22

set_option maxRecDepth 100000 in
set_option maxHeartbeats 4000000 in
/-- ArrayList.add(e), room is there -/
theorem c_addR (E : zG) (l : Launch) (R : va_W) (q : Nat) (mc : Int32) (t n k : Nat) (row : Nat → Option Nat) (hn : n < k) (hk : k ≤ 100) (v : Nat) (hvv : zV R v)  : Met l yJx4a65c_add_9ea2d wsJx4a65c_add_9ea2d (zR 7 1 100) (zPre E [.ref q, .ref v] (zP E (R ++ [(q, Sum.inr (2, [.int mc, .ref t, .int (nI n)])), (t, zoa E k row)]))) (va_Qi (fun r (_ : Nat × Int32) => r = 1) (fun u tt => (fun (u : Nat × Int32) => zP E (R ++ [(q, Sum.inr (2, [.int u.2, .ref u.1, .int (nI (n + 1))])), (u.1, zoa E k (va_up row n (some v)))])) u tt.heap) (eA E)) 1 100 (eA E) := by
  refine z_of (cc := cJx4a65c_add_9ea2d) (maxL := 2) (ret := (some .boolean)) (by decide) rfl rfl (Nat.le_of_ble_eq_true rfl) ?_
  intro p e s m below meth c ls Cx hr hnm hw hl
  have hx := Cx.1.1
  have hb := Cx.1.2.1
  have hl : lv_has ls 2 [(0, .ref q), (1, .ref v)] := hl
  refine lv_aload_n hx hb dJx4a65c_add_9ea2d_0 rfl (lv_at hl 0 rfl) ?_
  refine lv_dup hx hb dJx4a65c_add_9ea2d_1 rfl ?_
  refine zr_get Cx hw (T := TJx4a65c) (N := 3) (ci := 2) (fun _ h => List.mem_cons_of_mem _ (List.mem_append_right _ (h))) z_m2 rfl 0 (by decide) (List.mem_of_getElem? (i := 1) rfl) (Or.inr (List.mem_of_getElem? (i := 2) rfl)) rfl dJx4a65c_add_9ea2d_2 ?_
  refine lv_iconst (v := 1) hx hb dJx4a65c_add_9ea2d_5 (by decide) ?_
  refine lv_iadd hx hb dJx4a65c_add_9ea2d_6 ?_
  refine lv_topi (fun x_6 ex_6 => ?_)
  refine zr_put Cx hw (T := TJx4a65c) (N := 3) (ci := 2) (ty := .int) (fun _ h => List.mem_cons_of_mem _ (List.mem_append_right _ (h))) tyJx4a65c tyJx4a65c_ok nmJx4a65c z_m2 rfl 0 (by decide) (List.mem_of_getElem? (i := 1) rfl) (Or.inr (List.mem_of_getElem? (i := 2) rfl)) rfl (by decide +kernel) rfl rfl (Nat.le_of_ble_eq_true rfl) dJx4a65c_add_9ea2d_7 (fun H locs hw2 => ?_)
  have hw : zH E (R ++ [(q, Sum.inr (2, [.int x_6, .ref t, .int (nI n)])), (t, zoa E k row)]) s H locs := zt_2 hw hw2
  refine lv_aload_n hx hb dJx4a65c_add_9ea2d_10 rfl (lv_at hl 0 rfl) ?_
  refine lv_aload_n hx hb dJx4a65c_add_9ea2d_11 rfl (lv_at hl 1 rfl) ?_
  refine lv_aload_n hx hb dJx4a65c_add_9ea2d_12 rfl (lv_at hl 0 rfl) ?_
  refine zr_get Cx hw (T := TJx4a65c) (N := 3) (ci := 2) (fun _ h => List.mem_cons_of_mem _ (List.mem_append_right _ (h))) z_m2 rfl 1 (by decide) (List.mem_of_getElem? (i := 3) rfl) (Or.inl rfl) rfl dJx4a65c_add_9ea2d_13 ?_
  refine lv_aload_n hx hb dJx4a65c_add_9ea2d_16 rfl (lv_at hl 0 rfl) ?_
  refine zr_get Cx hw (T := TJx4a65c) (N := 3) (ci := 2) (fun _ h => List.mem_cons_of_mem _ (List.mem_append_right _ (h))) z_m2 rfl 2 (by decide) (List.mem_of_getElem? (i := 4) rfl) (Or.inl rfl) rfl dJx4a65c_add_9ea2d_17 ?_
  refine z_goev hw.2 (z_runV Cx hw (c_add3R E l R q x_6 t n k row hn hk v hvv) (cwV 3 Cx.1.2.2.2.2 gJx4a65c_add_9ea2d_Jx4a65c_add_72be8 rfl rfl rfl (by decide +kernel) ⟨Nat.le_of_ble_eq_true rfl, Nat.le_of_ble_eq_true rfl⟩) (zr_recv Cx hw (r := (RJx4a65c, TJx4a65c, 3)) z_m2 rfl) rfl hl.1 rfl (Nat.le_of_ble_eq_true rfl) dJx4a65c_add_9ea2d_20 ⟨Nat.le_of_ble_eq_true rfl, Nat.le_of_ble_eq_true rfl⟩) (fun H locs hw => ?_)
  refine lv_iconst (v := 1) hx hb dJx4a65c_add_9ea2d_23 (by decide) ?_
  exact z_iret (wf := (fun (u : Nat × Int32) => zP E (R ++ [(q, Sum.inr (2, [.int u.2, .ref u.1, .int (nI (n + 1))])), (u.1, zoa E k (va_up row n (some v)))]))) Cx hr rfl (Nat.le_of_ble_eq_true rfl) (Nat.le_of_ble_eq_true rfl) (t, x_6) hw rfl dJx4a65c_add_9ea2d_24

set_option maxRecDepth 100000 in
set_option maxHeartbeats 4000000 in
/-- .. the array is full -/
theorem c_addF (E : zG) (l : Launch) (R : va_W) (q : Nat) (mc : Int32) (t n : Nat) (row : Nat → Option Nat) (h2 : 2 ≤ n) (hn : n ≤ 60) (hv : ∀ i, i < n → ∀ y, row i = some y → zV R y) (v : Nat) (hvv : zV R v)  : Met l yJx4a65c_add_9ea2d wsJx4a65c_add_9ea2d (zR 7 1 100) (zPre E [.ref q, .ref v] (zP E (R ++ [(q, Sum.inr (2, [.int mc, .ref t, .int (nI n)])), (t, zoa E n row)]))) (va_Qi (fun r (_ : Nat × Int32) => r = 1) (fun u tt => (fun (u : Nat × Int32) => zP E (R ++ [(q, Sum.inr (2, [.int u.2, .ref u.1, .int (nI (n + 1))])), (u.1, zoa E (n + n / 2) (va_up (va_cpy row (fun _ => none) 0 0 n) n (some v)))])) u tt.heap) (eA E)) 1 100 (eA E) := by
  refine z_of (cc := cJx4a65c_add_9ea2d) (maxL := 2) (ret := (some .boolean)) (by decide) rfl rfl (Nat.le_of_ble_eq_true rfl) ?_
  intro p e s m below meth c ls Cx hr hnm hw hl
  have hx := Cx.1.1
  have hb := Cx.1.2.1
  have hl : lv_has ls 2 [(0, .ref q), (1, .ref v)] := hl
  refine lv_aload_n hx hb dJx4a65c_add_9ea2d_0 rfl (lv_at hl 0 rfl) ?_
  refine lv_dup hx hb dJx4a65c_add_9ea2d_1 rfl ?_
  refine zr_get Cx hw (T := TJx4a65c) (N := 3) (ci := 2) (fun _ h => List.mem_cons_of_mem _ (List.mem_append_right _ (h))) z_m2 rfl 0 (by decide) (List.mem_of_getElem? (i := 1) rfl) (Or.inr (List.mem_of_getElem? (i := 2) rfl)) rfl dJx4a65c_add_9ea2d_2 ?_
  refine lv_iconst (v := 1) hx hb dJx4a65c_add_9ea2d_5 (by decide) ?_
  refine lv_iadd hx hb dJx4a65c_add_9ea2d_6 ?_
  refine lv_topi (fun x_6 ex_6 => ?_)
  refine zr_put Cx hw (T := TJx4a65c) (N := 3) (ci := 2) (ty := .int) (fun _ h => List.mem_cons_of_mem _ (List.mem_append_right _ (h))) tyJx4a65c tyJx4a65c_ok nmJx4a65c z_m2 rfl 0 (by decide) (List.mem_of_getElem? (i := 1) rfl) (Or.inr (List.mem_of_getElem? (i := 2) rfl)) rfl (by decide +kernel) rfl rfl (Nat.le_of_ble_eq_true rfl) dJx4a65c_add_9ea2d_7 (fun H locs hw2 => ?_)
  have hw : zH E (R ++ [(q, Sum.inr (2, [.int x_6, .ref t, .int (nI n)])), (t, zoa E n row)]) s H locs := zt_2 hw hw2
  refine lv_aload_n hx hb dJx4a65c_add_9ea2d_10 rfl (lv_at hl 0 rfl) ?_
  refine lv_aload_n hx hb dJx4a65c_add_9ea2d_11 rfl (lv_at hl 1 rfl) ?_
  refine lv_aload_n hx hb dJx4a65c_add_9ea2d_12 rfl (lv_at hl 0 rfl) ?_
  refine zr_get Cx hw (T := TJx4a65c) (N := 3) (ci := 2) (fun _ h => List.mem_cons_of_mem _ (List.mem_append_right _ (h))) z_m2 rfl 1 (by decide) (List.mem_of_getElem? (i := 3) rfl) (Or.inl rfl) rfl dJx4a65c_add_9ea2d_13 ?_
  refine lv_aload_n hx hb dJx4a65c_add_9ea2d_16 rfl (lv_at hl 0 rfl) ?_
  refine zr_get Cx hw (T := TJx4a65c) (N := 3) (ci := 2) (fun _ h => List.mem_cons_of_mem _ (List.mem_append_right _ (h))) z_m2 rfl 2 (by decide) (List.mem_of_getElem? (i := 4) rfl) (Or.inl rfl) rfl dJx4a65c_add_9ea2d_17 ?_
  refine z_gov (wf := (fun t2 => zP E (R ++ [(q, Sum.inr (2, [.int x_6, .ref t2, .int (nI (n + 1))])), (t2, zoa E (n + n / 2) (va_up (va_cpy row (fun _ => none) 0 0 n) n (some v)))]))) hw.2 (z_runV Cx hw (c_add3F E l R q x_6 t n row h2 hn hv v hvv) (cwV 3 Cx.1.2.2.2.2 gJx4a65c_add_9ea2d_Jx4a65c_add_72be8 rfl rfl rfl (by decide +kernel) ⟨Nat.le_of_ble_eq_true rfl, Nat.le_of_ble_eq_true rfl⟩) (zr_recv Cx hw (r := (RJx4a65c, TJx4a65c, 3)) z_m2 rfl) rfl hl.1 rfl (Nat.le_of_ble_eq_true rfl) dJx4a65c_add_9ea2d_20 ⟨Nat.le_of_ble_eq_true rfl, Nat.le_of_ble_eq_true rfl⟩) (fun u_20 H locs _ hw => ?_)
  refine lv_iconst (v := 1) hx hb dJx4a65c_add_9ea2d_23 (by decide) ?_
  exact z_iret (wf := (fun (u : Nat × Int32) => zP E (R ++ [(q, Sum.inr (2, [.int u.2, .ref u.1, .int (nI (n + 1))])), (u.1, zoa E (n + n / 2) (va_up (va_cpy row (fun _ => none) 0 0 n) n (some v)))]))) Cx hr rfl (Nat.le_of_ble_eq_true rfl) (Nat.le_of_ble_eq_true rfl) (u_20, x_6) hw rfl dJx4a65c_add_9ea2d_24

set_option maxRecDepth 100000 in
set_option maxHeartbeats 4000000 in
/-- .. the first -/
theorem c_addE (E : zG) (l : Launch) (R : va_W) (q : Nat) (mc : Int32) (v : Nat) (hvv : zV R v)  : Met l yJx4a65c_add_9ea2d wsJx4a65c_add_9ea2d (zR 7 1 100) (zPre E [.ref q, .ref v] (zP E (R ++ [(q, Sum.inr (2, [.int mc, .ref (eT E), .int (nI 0)]))]))) (va_Qi (fun r (_ : Nat × Int32) => r = 1) (fun u tt => (fun (u : Nat × Int32) => zP E (R ++ [(q, Sum.inr (2, [.int u.2, .ref u.1, .int (nI 1)])), (u.1, zoa E 10 (va_up (fun _ => none) 0 (some v)))])) u tt.heap) (eA E)) 1 100 (eA E) := by
  refine z_of (cc := cJx4a65c_add_9ea2d) (maxL := 2) (ret := (some .boolean)) (by decide) rfl rfl (Nat.le_of_ble_eq_true rfl) ?_
  intro p e s m below meth c ls Cx hr hnm hw hl
  have hx := Cx.1.1
  have hb := Cx.1.2.1
  have hl : lv_has ls 2 [(0, .ref q), (1, .ref v)] := hl
  refine lv_aload_n hx hb dJx4a65c_add_9ea2d_0 rfl (lv_at hl 0 rfl) ?_
  refine lv_dup hx hb dJx4a65c_add_9ea2d_1 rfl ?_
  refine zr_get Cx hw (T := TJx4a65c) (N := 3) (ci := 2) (fun _ h => List.mem_cons_of_mem _ (List.mem_append_right _ (h))) z_m1 rfl 0 (by decide) (List.mem_of_getElem? (i := 1) rfl) (Or.inr (List.mem_of_getElem? (i := 2) rfl)) rfl dJx4a65c_add_9ea2d_2 ?_
  refine lv_iconst (v := 1) hx hb dJx4a65c_add_9ea2d_5 (by decide) ?_
  refine lv_iadd hx hb dJx4a65c_add_9ea2d_6 ?_
  refine lv_topi (fun x_6 ex_6 => ?_)
  refine zr_put Cx hw (T := TJx4a65c) (N := 3) (ci := 2) (ty := .int) (fun _ h => List.mem_cons_of_mem _ (List.mem_append_right _ (h))) tyJx4a65c tyJx4a65c_ok nmJx4a65c z_m1 rfl 0 (by decide) (List.mem_of_getElem? (i := 1) rfl) (Or.inr (List.mem_of_getElem? (i := 2) rfl)) rfl (by decide +kernel) rfl rfl (Nat.le_of_ble_eq_true rfl) dJx4a65c_add_9ea2d_7 (fun H locs hw2 => ?_)
  have hw : zH E (R ++ [(q, Sum.inr (2, [.int x_6, .ref (eT E), .int (nI 0)]))]) s H locs := zt_1 hw hw2
  refine lv_aload_n hx hb dJx4a65c_add_9ea2d_10 rfl (lv_at hl 0 rfl) ?_
  refine lv_aload_n hx hb dJx4a65c_add_9ea2d_11 rfl (lv_at hl 1 rfl) ?_
  refine lv_aload_n hx hb dJx4a65c_add_9ea2d_12 rfl (lv_at hl 0 rfl) ?_
  refine zr_get Cx hw (T := TJx4a65c) (N := 3) (ci := 2) (fun _ h => List.mem_cons_of_mem _ (List.mem_append_right _ (h))) z_m1 rfl 1 (by decide) (List.mem_of_getElem? (i := 3) rfl) (Or.inl rfl) rfl dJx4a65c_add_9ea2d_13 ?_
  refine lv_aload_n hx hb dJx4a65c_add_9ea2d_16 rfl (lv_at hl 0 rfl) ?_
  refine zr_get Cx hw (T := TJx4a65c) (N := 3) (ci := 2) (fun _ h => List.mem_cons_of_mem _ (List.mem_append_right _ (h))) z_m1 rfl 2 (by decide) (List.mem_of_getElem? (i := 4) rfl) (Or.inl rfl) rfl dJx4a65c_add_9ea2d_17 ?_
  refine z_gov (wf := (fun t2 => zP E (R ++ [(q, Sum.inr (2, [.int x_6, .ref t2, .int (nI 1)])), (t2, zoa E 10 (va_up (fun _ => none) 0 (some v)))]))) hw.2 (z_runV Cx hw (c_add3E E l R q x_6 v hvv) (cwV 3 Cx.1.2.2.2.2 gJx4a65c_add_9ea2d_Jx4a65c_add_72be8 rfl rfl rfl (by decide +kernel) ⟨Nat.le_of_ble_eq_true rfl, Nat.le_of_ble_eq_true rfl⟩) (zr_recv Cx hw (r := (RJx4a65c, TJx4a65c, 3)) z_m1 rfl) rfl hl.1 rfl (Nat.le_of_ble_eq_true rfl) dJx4a65c_add_9ea2d_20 ⟨Nat.le_of_ble_eq_true rfl, Nat.le_of_ble_eq_true rfl⟩) (fun u_20 H locs _ hw => ?_)
  refine lv_iconst (v := 1) hx hb dJx4a65c_add_9ea2d_23 (by decide) ?_
  exact z_iret (wf := (fun (u : Nat × Int32) => zP E (R ++ [(q, Sum.inr (2, [.int u.2, .ref u.1, .int (nI 1)])), (u.1, zoa E 10 (va_up (fun _ => none) 0 (some v)))]))) Cx hr rfl (Nat.le_of_ble_eq_true rfl) (Nat.le_of_ble_eq_true rfl) (u_20, x_6) hw rfl dJx4a65c_add_9ea2d_24


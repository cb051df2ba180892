set_option maxRecDepth 100000 in
set_option maxHeartbeats 4000000 in
/-- Preconditions.checkIndex, in range -/
theorem c_pchk (E : zG) (l : Launch) (w : Heap → Prop) (j n : Nat) (hj : j < n) (hn : n < 2 ^ 31) : Met l yJ3_checkIndex_8e157 wsJ3_checkIndex_8e157 (zR 0 0 0) (zPre E [.int (nI j), .int (nI n), .null] w) (zRi E w (nI j)) 0 0 (eA E) := by
  refine z_of (cc := cJ3_checkIndex_8e157) (maxL := 3) (ret := (some .int)) (by decide) rfl rfl (Nat.le_of_ble_eq_true rfl) ?_
  intro p e s m below meth c ls Cx hr hnm hw hl
  have hx := Cx.1.1
  have hb := Cx.1.2.1
  have hl : lv_has ls 3 [(0, .int (nI j)), (1, .int (nI n)), (2, .null)] := hl
  refine lv_iload_n hx hb dJ3_checkIndex_8e157_0 rfl (lv_at hl 0 rfl) ?_
  refine lv_if_lt (tgt := 9) hx hb dJ3_checkIndex_8e157_1 (by decide) (fun c_1 => ?_) (fun c_1 => ?_)
  · skip
    exact absurd c_1 (nI_pos (by omega))
  · skip
    refine lv_iload_n hx hb dJ3_checkIndex_8e157_4 rfl (lv_at hl 0 rfl) ?_
    refine lv_iload_n hx hb dJ3_checkIndex_8e157_5 rfl (lv_at hl 1 rfl) ?_
    refine lv_icmp_lt (tgt := 16) hx hb dJ3_checkIndex_8e157_6 (by decide) (fun c_6 => ?_) (fun c_6 => ?_)
    · skip
      refine lv_iload_n hx hb dJ3_checkIndex_8e157_16 rfl (lv_at hl 0 rfl) ?_
      exact (z_ie Cx hr rfl (Nat.le_of_ble_eq_true rfl) (Nat.le_of_ble_eq_true rfl) hw dJ3_checkIndex_8e157_17 rfl)
    · skip
      exact absurd (nI_lt hj hn) c_6

set_option maxRecDepth 100000 in
set_option maxHeartbeats 4000000 in
/-- Objects.checkIndex, in range -/
theorem c_ochk (E : zG) (l : Launch) (w : Heap → Prop) (j n : Nat) (hj : j < n) (hn : n < 2 ^ 31) : Met l yJ15_checkIndex_7cf53 wsJ15_checkIndex_7cf53 (zR 1 0 0) (zPre E [.int (nI j), .int (nI n)] w) (zRi E w (nI j)) 0 0 (eA E) := by
  refine z_of (cc := cJ15_checkIndex_7cf53) (maxL := 2) (ret := (some .int)) (by decide) rfl rfl (Nat.le_of_ble_eq_true rfl) ?_
  intro p e s m below meth c ls Cx hr hnm hw hl
  have hx := Cx.1.1
  have hb := Cx.1.2.1
  have hl : lv_has ls 2 [(0, .int (nI j)), (1, .int (nI n))] := hl
  refine lv_iload_n hx hb dJ15_checkIndex_7cf53_0 rfl (lv_at hl 0 rfl) ?_
  refine lv_iload_n hx hb dJ15_checkIndex_7cf53_1 rfl (lv_at hl 1 rfl) ?_
  refine lv_null hx hb dJ15_checkIndex_7cf53_2 ?_
  refine z_goe hw.2 (z_runS Cx hw (c_pchk E l w j n hj hn) (va_cwS 3 Cx.1.2.2.2.2 gJ15_checkIndex_7cf53_J3_checkIndex_8e157 rfl rfl rfl (by decide +kernel) ⟨Nat.le_of_ble_eq_true rfl, Nat.le_of_ble_eq_true rfl⟩)  rfl hl.1 rfl (Nat.le_of_ble_eq_true rfl) dJ15_checkIndex_7cf53_3 ⟨Nat.le_of_ble_eq_true rfl, Nat.le_of_ble_eq_true rfl⟩) (fun H locs hw => ?_)
  exact (z_ie Cx hr rfl (Nat.le_of_ble_eq_true rfl) (Nat.le_of_ble_eq_true rfl) hw dJ15_checkIndex_7cf53_6 rfl)

set_option maxRecDepth 100000 in
set_option maxHeartbeats 4000000 in
/-- ArrayList.elementData -/
theorem c_al_elem (E : zG) (l : Launch) (ws : va_W) (q t : Nat) (v0 v2 : Value) (n j y : Nat) (row : Nat → Option Nat) (he : (q, Sum.inr (2, [v0, .ref t, v2])) ∈ ws) (ht : (t, zoa E n row) ∈ ws) (hj : j < n) (hn : n ≤ 100) (hy : row j = some y) : Met l yJx4a65c_elementData_915e3 wsJx4a65c_elementData_915e3 (zR 0 0 0) (zPre E [.ref q, .int (nI j)] (zP E ws)) (zRr E (zP E ws) y) 0 0 (eA E) := by
  refine z_of (cc := cJx4a65c_elementData_915e3) (maxL := 2) (ret := (some (.object "java/lang/Object"))) (by decide) rfl rfl (Nat.le_of_ble_eq_true rfl) ?_
  intro p e s m below meth c ls Cx hr hnm hw hl
  have hx := Cx.1.1
  have hb := Cx.1.2.1
  have hl : lv_has ls 2 [(0, .ref q), (1, .int (nI j))] := hl
  refine lv_aload_n hx hb dJx4a65c_elementData_915e3_0 rfl (lv_at hl 0 rfl) ?_
  refine zr_get Cx hw (T := TJx4a65c) (N := 3) (ci := 2) (fun _ h => List.mem_cons_of_mem _ (List.mem_append_right _ (h))) he rfl 1 (by decide) (List.mem_of_getElem? (i := 1) rfl) (Or.inl rfl) rfl dJx4a65c_elementData_915e3_1 ?_
  refine lv_iload_n hx hb dJx4a65c_elementData_915e3_4 rfl (lv_at hl 1 rfl) ?_
  refine zr_aald Cx hw ht hj (by omega) hy dJx4a65c_elementData_915e3_5 ?_
  exact (z_re Cx hr (Or.inl ⟨_, rfl⟩) (Nat.le_of_ble_eq_true rfl) (Nat.le_of_ble_eq_true rfl) hw dJx4a65c_elementData_915e3_6 rfl)

set_option maxRecDepth 100000 in
set_option maxHeartbeats 4000000 in
/-- ArrayList.size -/
theorem c_al_size (E : zG) (l : Launch) (Z : va_W) (C : zLs) (q : Nat) (es : List Nat) (hq : C q = some es)  : Met l yJx4a65c_size_8abf5 wsJx4a65c_size_8abf5 (zR 0 0 0) (zPre E [.ref q] (zQ E Z C)) (zRi E (zQ E Z C) (nI es.length)) 0 0 (eA E) := by
  refine z_of (cc := cJx4a65c_size_8abf5) (maxL := 1) (ret := (some .int)) (by decide) rfl rfl (Nat.le_of_ble_eq_true rfl) ?_
  intro p e s m below meth c ls Cx hr hnm hw hl
  have hx := Cx.1.1
  have hb := Cx.1.2.1
  obtain ⟨⟨YA, hP, ow, hA⟩, hS⟩ := hw
  obtain ⟨hv, mc, t, he, ht⟩ := hA q es hq
  have he := List.mem_append_right Z he
  have hw : zH E (Z ++ YA) s s.heap [] := ⟨hP, hS⟩
  have hl : lv_has ls 1 [(0, .ref q)] := hl
  refine lv_aload_n hx hb dJx4a65c_size_8abf5_0 rfl (lv_at hl 0 rfl) ?_
  refine zr_get Cx hw (T := TJx4a65c) (N := 3) (ci := 2) (fun _ h => List.mem_cons_of_mem _ (List.mem_append_right _ (h))) he rfl 2 (by decide) (List.mem_of_getElem? (i := 1) rfl) (Or.inl rfl) rfl dJx4a65c_size_8abf5_1 ?_
  exact (z_ie Cx hr rfl (Nat.le_of_ble_eq_true rfl) (Nat.le_of_ble_eq_true rfl) ⟨⟨YA, hw.1, ow, hA⟩, hw.2⟩ dJx4a65c_size_8abf5_4 rfl)

set_option maxRecDepth 100000 in
set_option maxHeartbeats 4000000 in
/-- ArrayList.get, in range -/
theorem c_al_get (E : zG) (l : Launch) (Z : va_W) (C : zLs) (q : Nat) (es : List Nat) (hq : C q = some es) (j y : Nat) (hy : es[j]? = some y) : Met l yJx4a65c_get_915e3 wsJx4a65c_get_915e3 (zR 2 0 0) (zPre E [.ref q, .int (nI j)] (zQ E Z C)) (zRr E (zQ E Z C) y) 0 0 (eA E) := by
  refine z_of (cc := cJx4a65c_get_915e3) (maxL := 2) (ret := (some (.object "java/lang/Object"))) (by decide) rfl rfl (Nat.le_of_ble_eq_true rfl) ?_
  intro p e s m below meth c ls Cx hr hnm hw hl
  have hx := Cx.1.1
  have hb := Cx.1.2.1
  obtain ⟨⟨YA, hP, ow, hA⟩, hS⟩ := hw
  obtain ⟨hv, mc, t, he, ht⟩ := hA q es hq
  have he := List.mem_append_right Z he
  have hw : zH E (Z ++ YA) s s.heap [] := ⟨hP, hS⟩
  have hj : j < es.length := (List.getElem?_eq_some_iff.mp hy).1
  obtain ⟨n, row, hrw, b1, b2, b3, b4⟩ : ∃ (n : Nat) (row : Nat → Option Nat), (t, zoa E n row) ∈ Z ++ YA ∧ es.length ≤ n ∧ 10 ≤ n ∧ n ≤ 100 ∧ ∀ i y, es[i]? = some y → row i = some y := by
    rcases ht with ⟨-, h⟩ | ⟨-, n, row, h1, h2⟩
    · subst h; cases hy
    · exact ⟨n, row, List.mem_append_right Z h1, h2⟩
  have hl : lv_has ls 2 [(0, .ref q), (1, .int (nI j))] := hl
  refine lv_iload_n hx hb dJx4a65c_get_915e3_0 rfl (lv_at hl 1 rfl) ?_
  refine lv_aload_n hx hb dJx4a65c_get_915e3_1 rfl (lv_at hl 0 rfl) ?_
  refine zr_get Cx hw (T := TJx4a65c) (N := 3) (ci := 2) (fun _ h => List.mem_cons_of_mem _ (List.mem_append_right _ (h))) he rfl 2 (by decide) (List.mem_of_getElem? (i := 1) rfl) (Or.inl rfl) rfl dJx4a65c_get_915e3_2 ?_
  refine z_goe hw.2 (z_runS Cx hw (c_ochk E l (zP E (Z ++ YA)) j es.length hj (by omega)) (va_cwS 2 Cx.1.2.2.2.2 gJx4a65c_get_915e3_J15_checkIndex_7cf53 rfl rfl rfl (by decide +kernel) ⟨Nat.le_of_ble_eq_true rfl, Nat.le_of_ble_eq_true rfl⟩)  rfl hl.1 rfl (Nat.le_of_ble_eq_true rfl) dJx4a65c_get_915e3_5 ⟨Nat.le_of_ble_eq_true rfl, Nat.le_of_ble_eq_true rfl⟩) (fun H locs hw => ?_)
  refine lv_pop hx hb dJx4a65c_get_915e3_8 rfl ?_
  refine lv_aload_n hx hb dJx4a65c_get_915e3_9 rfl (lv_at hl 0 rfl) ?_
  refine lv_iload_n hx hb dJx4a65c_get_915e3_10 rfl (lv_at hl 1 rfl) ?_
  refine z_goer hw.2 (z_runV Cx hw (c_al_elem E l (Z ++ YA) q t _ _ n j y row he hrw (by omega) b3 (b4 j y hy)) (cwV 1 Cx.1.2.2.2.2 gJx4a65c_get_915e3_Jx4a65c_elementData_915e3 rfl rfl rfl (by decide +kernel) ⟨Nat.le_of_ble_eq_true rfl, Nat.le_of_ble_eq_true rfl⟩) (zr_recv Cx hw (r := (RJx4a65c, TJx4a65c, 3)) he rfl) rfl hl.1 rfl (Nat.le_of_ble_eq_true rfl) dJx4a65c_get_915e3_11 ⟨Nat.le_of_ble_eq_true rfl, Nat.le_of_ble_eq_true rfl⟩) (fun H locs hw => ?_)
  exact (z_re Cx hr (Or.inl ⟨_, rfl⟩) (Nat.le_of_ble_eq_true rfl) (Nat.le_of_ble_eq_true rfl) ⟨⟨YA, hw.1, ow, hA⟩, hw.2⟩ dJx4a65c_get_915e3_14 rfl)

set_option maxRecDepth 100000 in
set_option maxHeartbeats 4000000 in
/-- ArraysSupport.newLength, small -/
theorem c_newLen (E : zG) (l : Launch) (w : Heap → Prop) (n : Nat) (h2 : 2 ≤ n) (hn : n ≤ 1000) : Met l yJ8_newLength_cabcc wsJ8_newLength_cabcc (zR 1 0 0) (zPre E [.int (nI n), .int (nI 1), .int (nI (n / 2))] w) (zRi E w (nI (n + n / 2))) 0 0 (eA E) := by
  refine z_of (cc := cJ8_newLength_cabcc) (maxL := 4) (ret := (some .int)) (by decide) rfl rfl (Nat.le_of_ble_eq_true rfl) ?_
  intro p e s m below meth c ls Cx hr hnm hw hl
  have hx := Cx.1.1
  have hb := Cx.1.2.1
  have hl : lv_has ls 4 [(0, .int (nI n)), (1, .int (nI 1)), (2, .int (nI (n / 2)))] := hl
  refine lv_iload_n hx hb dJ8_newLength_cabcc_0 rfl (lv_at hl 0 rfl) ?_
  refine lv_iload_n hx hb dJ8_newLength_cabcc_1 rfl (lv_at hl 1 rfl) ?_
  refine lv_iload_n hx hb dJ8_newLength_cabcc_2 rfl (lv_at hl 2 rfl) ?_
  refine va_mmax hx hb (Cx.1.2.2.1.trans hl.1.symm) Cx.1.2.2.2.1 (Cx.1.2.2.2.2 (.methodLink RJ8 194 Lib.Math.max.name) (List.mem_of_getElem? (i := 1) rfl)) (Cx.1.2.2.2.2 (.static Lib.Math.max.name) (List.mem_of_getElem? (i := 2) rfl)) (Cx.1.2.2.2.2 (.initialized "java/lang/Math") (List.mem_of_getElem? (i := 3) rfl)) (Cx.1.2.2.2.2 (.code Lib.Math.max.name Lib.Math.max.code 2 (some .int)) (List.mem_of_getElem? (i := 4) rfl)) (Nat.le_of_ble_eq_true rfl) (Nat.le_of_ble_eq_true rfl) (Nat.le_of_ble_eq_true rfl) (Nat.le_of_ble_eq_true rfl) dJ8_newLength_cabcc_3 ?_
  refine lv_iadd hx hb dJ8_newLength_cabcc_6 ?_
  refine lv_topi (fun x_6 ex_6 => ?_)
  have e_6 : x_6 = nI (n + n / 2) := by
    rw [ex_6]
    by_cases c : nI 1 < nI (n / 2)
    · rw [if_pos c]; exact nI_add n (n / 2)
    · rw [if_neg c]
      have c1 : ¬ 1 < n / 2 := fun h => c (nI_lt h (by omega))
      have hd : n / 2 = 1 := by omega
      rw [hd]; exact nI_add n 1
  subst e_6
  refine lv_istore_n hx hb dJ8_newLength_cabcc_7 rfl hl (by decide) rfl (fun ls hl => ?_)
  have hl : lv_has ls 4 [(3, _), (0, .int (nI n)), (1, .int (nI 1)), (2, .int (nI (n / 2)))] := hl
  refine lv_iconst (v := nI 0) hx hb dJ8_newLength_cabcc_8 rfl ?_
  refine lv_iload_n hx hb dJ8_newLength_cabcc_9 rfl (lv_at hl 0 rfl) ?_
  refine lv_icmp_ge (tgt := 21) hx hb dJ8_newLength_cabcc_10 (by decide) (fun c_10 => ?_) (fun c_10 => ?_)
  · skip
    exact absurd c_10 (nI_nle (by omega) (by omega))
  · skip
    refine lv_iload_n hx hb dJ8_newLength_cabcc_13 rfl (lv_at hl 0 rfl) ?_
    refine lv_ldc hx hb Cx.1.2.2.2.1 (Cx.1.2.2.2.2 (Cond.constant RJ8 200 (2147483639)) (List.mem_of_getElem? (i := 5) rfl)) dJ8_newLength_cabcc_14 ?_
    refine lv_icmp_gt (tgt := 21) hx hb dJ8_newLength_cabcc_16 (by decide) (fun c_16 => ?_) (fun c_16 => ?_)
    · skip
      exact absurd c_16 (nI_nlt (a := 2147483639) (b := n + n / 2) (by omega) (by decide))
    · skip
      refine lv_iload_n hx hb dJ8_newLength_cabcc_19 rfl (lv_at hl 0 rfl) ?_
      exact (z_ie Cx hr rfl (Nat.le_of_ble_eq_true rfl) (Nat.le_of_ble_eq_true rfl) hw dJ8_newLength_cabcc_20 rfl)

set_option maxRecDepth 100000 in
set_option maxHeartbeats 4000000 in
/-- Arrays.copyOf of an Object[] -/
theorem c_copyOf3 (E : zG) (l : Launch) (ws : va_W) (t n k : Nat) (row : Nat → Option Nat) (ht : (t, zoa E n row) ∈ ws) (hnk : n ≤ k) (hk : k ≤ 100) (hv : ∀ i, i < n → ∀ y, row i = some y → zV ws y) : Met l yJ7_copyOf_6403c wsJ7_copyOf_6403c (zR 2 1 100) (zPre E [.ref t, .int (nI k), .ref (eM E)] (zP E ws)) (va_Qr (fun (_ : Nat) => True) (fun t2 a tt => a = t2 ∧ zP E (ws ++ [(t2, zoa E k (va_cpy row (fun _ => none) 0 0 n))]) tt.heap) (eA E)) 1 100 (eA E) := by
  refine z_of (cc := cJ7_copyOf_6403c) (maxL := 4) (ret := (some (.array (.object "java/lang/Object")))) (by decide) rfl rfl (Nat.le_of_ble_eq_true rfl) ?_
  intro p e s m below meth c ls Cx hr hnm hw hl
  have hx := Cx.1.1
  have hb := Cx.1.2.1
  have hl : lv_has ls 4 [(0, .ref t), (1, .int (nI k)), (2, .ref (eM E))] := hl
  refine lv_aload_n hx hb dJ7_copyOf_6403c_0 rfl (lv_at hl 2 rfl) ?_
  refine va_ldcM hx hb Cx.1.2.2.2.1 (Cx.1.2.2.2.2 _ (List.mem_of_getElem? (i := 1) rfl)) Cx.2.1.2.2.2.1.1 dJ7_copyOf_6403c_1 ?_
  refine lv_acmp_ne (rx := some (eM E)) (ry := some (eM E)) (tgt := 13) hx hb dJ7_copyOf_6403c_3 (by decide) (fun c_3 => absurd rfl c_3) (fun _ => ?_)
  refine lv_iload_n hx hb dJ7_copyOf_6403c_6 rfl (lv_at hl 1 rfl) ?_
  refine zr_newq Cx hw (N' := k) (List.mem_of_getElem? (i := 2) rfl) (by omega) (by decide) (show 0 + k ≤ 100 by omega) dJ7_copyOf_6403c_7 (fun t2 H hfr hw => ?_)
  refine W.widen (k := 1) (n := 100) (Nat.le_refl _) (by omega) ?_
  refine lv_goto (tgt := 24) hx hb dJ7_copyOf_6403c_10 (by decide) ?_
  refine lv_astore_n hx hb dJ7_copyOf_6403c_24 rfl hl (by decide) rfl (fun ls hl => ?_)
  have hl : lv_has ls 4 [(3, .ref t2), (0, .ref t), (1, .int (nI k)), (2, .ref (eM E))] := hl
  refine lv_aload_n hx hb dJ7_copyOf_6403c_25 rfl (lv_at hl 1 rfl) ?_
  refine lv_iconst (v := nI 0) hx hb dJ7_copyOf_6403c_26 rfl ?_
  refine lv_aload_n hx hb dJ7_copyOf_6403c_27 rfl (lv_at hl 0 rfl) ?_
  refine lv_iconst (v := nI 0) hx hb dJ7_copyOf_6403c_28 rfl ?_
  refine lv_aload_n hx hb dJ7_copyOf_6403c_29 rfl (lv_at hl 1 rfl) ?_
  refine zr_alen Cx hw (List.mem_append_left _ ht) dJ7_copyOf_6403c_30 ?_
  refine lv_iload_n hx hb dJ7_copyOf_6403c_31 rfl (lv_at hl 2 rfl) ?_
  refine va_mmin hx hb (Cx.1.2.2.1.trans hl.1.symm) Cx.1.2.2.2.1 (Cx.1.2.2.2.2 (.methodLink RJ7 304 Lib.Math.min.name) (List.mem_of_getElem? (i := 3) rfl)) (Cx.1.2.2.2.2 (.static Lib.Math.min.name) (List.mem_of_getElem? (i := 4) rfl)) (Cx.1.2.2.2.2 (.initialized "java/lang/Math") (List.mem_of_getElem? (i := 5) rfl)) (Cx.1.2.2.2.2 (.code Lib.Math.min.name Lib.Math.min.code 2 (some .int)) (List.mem_of_getElem? (i := 6) rfl)) (Nat.le_of_ble_eq_true rfl) (Nat.le_of_ble_eq_true rfl) (Nat.le_of_ble_eq_true rfl) (Nat.le_of_ble_eq_true rfl) dJ7_copyOf_6403c_32 ?_
  have e_32 : (if nI k < nI n then nI k else nI n) = nI n := if_neg (nI_nlt hnk (by omega))
  rw [e_32]
  refine zr_copy Cx hw hl.1 (List.mem_of_getElem? (i := 7) rfl) (List.mem_of_getElem? (i := 8) rfl) (List.mem_of_getElem? (i := 9) rfl) (List.mem_of_getElem? (i := 10) rfl) (List.mem_append_left _ ht) z_m1 (by omega) (by omega) (by omega) (by omega) (fun i hi y hy => (hv i hi y (by rw [Nat.zero_add] at hy; exact hy)).app) (Nat.le_of_ble_eq_true rfl) (Nat.le_of_ble_eq_true rfl) dJ7_copyOf_6403c_35 (fun H locs hw2 => ?_)
  have hw : zH E (ws ++ [(t2, zoa E k (va_cpy row (fun _ => none) 0 0 n))]) s H locs := zt_1 hw hw2
  refine lv_aload_n hx hb dJ7_copyOf_6403c_38 rfl (lv_at hl 0 rfl) ?_
  exact z_aret (pr := fun (t2 : Nat) a => a = t2) (wf := fun t2 => zP E (ws ++ [(t2, zoa E k (va_cpy row (fun _ => none) 0 0 n))])) Cx hr (Or.inr ⟨_, rfl⟩) (Nat.le_of_ble_eq_true rfl) (Nat.le_of_ble_eq_true rfl) t2 hw trivial rfl dJ7_copyOf_6403c_39

set_option maxRecDepth 100000 in
set_option maxHeartbeats 4000000 in
/-- Arrays.copyOf -/
theorem c_copyOf2 (E : zG) (l : Launch) (ws : va_W) (t n k : Nat) (row : Nat → Option Nat) (ht : (t, zoa E n row) ∈ ws) (hnk : n ≤ k) (hk : k ≤ 100) (hv : ∀ i, i < n → ∀ y, row i = some y → zV ws y) : Met l yJ7_copyOf_1904c wsJ7_copyOf_1904c (zR 3 1 100) (zPre E [.ref t, .int (nI k)] (zP E ws)) (va_Qr (fun (_ : Nat) => True) (fun t2 a tt => a = t2 ∧ zP E (ws ++ [(t2, zoa E k (va_cpy row (fun _ => none) 0 0 n))]) tt.heap) (eA E)) 1 100 (eA E) := by
  refine z_of (cc := cJ7_copyOf_1904c) (maxL := 2) (ret := (some (.array (.object "java/lang/Object")))) (by decide) rfl rfl (Nat.le_of_ble_eq_true rfl) ?_
  intro p e s m below meth c ls Cx hr hnm hw hl
  have hx := Cx.1.1
  have hb := Cx.1.2.1
  have hl : lv_has ls 2 [(0, .ref t), (1, .int (nI k))] := hl
  refine lv_aload_n hx hb dJ7_copyOf_1904c_0 rfl (lv_at hl 0 rfl) ?_
  refine lv_iload_n hx hb dJ7_copyOf_1904c_1 rfl (lv_at hl 1 rfl) ?_
  refine lv_aload_n hx hb dJ7_copyOf_1904c_2 rfl (lv_at hl 0 rfl) ?_
  refine va_getC hx hb (Cx.1.2.2.1.trans hl.1.symm) Cx.1.2.2.2.1 (Cx.1.2.2.2.2 (.methodLink RJ7 86 ⟨"java/lang/Object", "getClass", "()Ljava/lang/Class;"⟩) (List.mem_of_getElem? (i := 1) rfl)) (va_Dc.use Cx.2.1.2.2.2.1.2.1) (Cx.1.2.2.2.2 (.selects "[Ljava/lang/Object;" ⟨"java/lang/Object", "getClass", "()Ljava/lang/Class;"⟩ ⟨"java/lang/Object", "getClass", "()Ljava/lang/Class;"⟩) (List.mem_of_getElem? (i := 2) rfl)) (Cx.1.2.2.2.2 (.instanceMethod ⟨"java/lang/Object", "getClass", "()Ljava/lang/Class;"⟩) (List.mem_of_getElem? (i := 3) rfl)) (Cx.1.2.2.2.2 (.native ⟨"java/lang/Object", "getClass", "()Ljava/lang/Class;"⟩) (List.mem_of_getElem? (i := 4) rfl)) Cx.2.1.2.2.2.1.1 (zr_arrcl Cx hw ht) (Nat.le_of_ble_eq_true rfl) (Nat.le_of_ble_eq_true rfl) dJ7_copyOf_1904c_3 ?_
  refine z_gor (pr := fun (t2 : Nat) a => a = t2) (wf := fun t2 => zP E (ws ++ [(t2, zoa E k (va_cpy row (fun _ => none) 0 0 n))])) hw.2 (z_runS Cx hw (c_copyOf3 E l ws t n k row ht hnk hk hv) (va_cwS 3 Cx.1.2.2.2.2 gJ7_copyOf_1904c_J7_copyOf_6403c rfl rfl rfl (by decide +kernel) ⟨Nat.le_of_ble_eq_true rfl, Nat.le_of_ble_eq_true rfl⟩)  rfl hl.1 rfl (Nat.le_of_ble_eq_true rfl) dJ7_copyOf_1904c_6 ⟨Nat.le_of_ble_eq_true rfl, Nat.le_of_ble_eq_true rfl⟩) (fun t2 ra H locs _ hra hw => ?_)
  subst hra
  exact z_aret (pr := fun (t2 : Nat) a => a = t2) (wf := fun t2 => zP E (ws ++ [(t2, zoa E k (va_cpy row (fun _ => none) 0 0 n))])) Cx hr (Or.inr ⟨_, rfl⟩) (Nat.le_of_ble_eq_true rfl) (Nat.le_of_ble_eq_true rfl) _ hw trivial rfl dJ7_copyOf_1904c_9


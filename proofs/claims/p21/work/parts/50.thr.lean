/-! what is refused, and by what -/
theorem zset_last {Y : va_W} {q : Nat} {e e0 : va_E} (h : ∀ x ∈ Y, x.1 ≠ q) : zset (Y ++ [(q, e0)]) q e = Y ++ [(q, e)] := by
  rw [zset_app, zset_ne h]
  simp [zset]
theorem zb_f (b : Bool) : fits .boolean (.int (zb b)) = true := by cases b <;> rfl
def zbok (b k : Int32) : Prop := ¬ k < 0 ∧ ¬ 10 < k ∧ ¬ b < 0 ∧ b < 1024 ∧ b &&& ((1 : Int32) <<< (k &&& 31) - 1) = 0
def zpok (f la : Int32) : Prop := ¬ f < 0 ∧ ¬ la < f ∧ la < 16
abbrev zps (f la : Int32) : Int32 := (1 : Int32) <<< ((la + 1) &&& 31) - (1 : Int32) <<< (f &&& 31)
set_option maxRecDepth 100000 in
set_option maxHeartbeats 4000000 in
/-- checkIndex -/
theorem c_X7_checkIndex (E : zG) (l : Launch) (hl0 : l.stackTraces = false) (Z : va_W) (C : zLs) (i n : Int32) : vx_Met l yX7_checkIndex wsX7_checkIndex (zR 6 1 6) (zPre E [.int i, .int n] (zQ E Z C)) (va_Qv (fun (_ : Unit) => ¬ i < 0 ∧ i < n) (fun _ t => zQ E Z C t.heap) (eA E)) (zX E (zQ E Z C) (fun nm => nm = zIOO ∧ ¬ (¬ i < 0 ∧ i < n))) 1 6 (eA E) := by
  refine zx_of (cc := cX7_checkIndex) (maxL := 2) (ret := none) (by decide) rfl rfl (Nat.le_of_ble_eq_true rfl) ?_
  intro p e s m below meth c ls ht Cx hr hnm hw hl
  have hx := Cx.1.1
  have hb := Cx.1.2.1
  have hl : lv_has ls 2 [(0, .int i), (1, .int n)] := hl
  refine lv_iload_n hx hb dX7_checkIndex_0 rfl (lv_at hl 0 rfl) ?_
  refine lv_if_lt (tgt := 9) hx hb dX7_checkIndex_1 (by decide) (fun c_1 => ?_) (fun c_1 => ?_)
  · skip
    exact z_throw (is := 210) Cx hl0 ht hw (List.mem_of_getElem? (i := 16) rfl) (by decide) (List.mem_of_getElem? (i := 1) rfl) (List.mem_of_getElem? (i := 2) rfl) (fun _ h => List.mem_cons_of_mem _ (List.mem_append_right _ (h))) (by decide +kernel) (by decide +kernel) (by decide +kernel) hl.1 dX7_checkIndex_9 dX7_checkIndex_12 dX7_checkIndex_13 dX7_checkIndex_15 dX7_checkIndex_18 (Nat.le_of_ble_eq_true rfl) (Nat.le_of_ble_eq_true rfl) (Nat.le_of_ble_eq_true rfl) (Nat.le_of_ble_eq_true rfl) ⟨rfl, by first | exact fun h => h.1 c_1 | exact fun h => c_6 h.2⟩ (fun _ h => h) (Nat.le_of_ble_eq_true rfl) (Nat.le_of_ble_eq_true rfl)
  · skip
    refine lv_iload_n hx hb dX7_checkIndex_4 rfl (lv_at hl 0 rfl) ?_
    refine lv_iload_n hx hb dX7_checkIndex_5 rfl (lv_at hl 1 rfl) ?_
    refine lv_icmp_lt (tgt := 19) hx hb dX7_checkIndex_6 (by decide) (fun c_6 => ?_) (fun c_6 => ?_)
    · skip
      exact vx_ret (z_vret (wf := fun _ => zQ E Z C) Cx hr (Nat.le_of_ble_eq_true rfl) (Nat.le_of_ble_eq_true rfl) () hw ⟨c_1, c_6⟩ dX7_checkIndex_19)
    · skip
      exact z_throw (is := 210) Cx hl0 ht hw (List.mem_of_getElem? (i := 16) rfl) (by decide) (List.mem_of_getElem? (i := 1) rfl) (List.mem_of_getElem? (i := 2) rfl) (fun _ h => List.mem_cons_of_mem _ (List.mem_append_right _ (h))) (by decide +kernel) (by decide +kernel) (by decide +kernel) hl.1 dX7_checkIndex_9 dX7_checkIndex_12 dX7_checkIndex_13 dX7_checkIndex_15 dX7_checkIndex_18 (Nat.le_of_ble_eq_true rfl) (Nat.le_of_ble_eq_true rfl) (Nat.le_of_ble_eq_true rfl) (Nat.le_of_ble_eq_true rfl) ⟨rfl, by first | exact fun h => h.1 c_1 | exact fun h => c_6 h.2⟩ (fun _ h => h) (Nat.le_of_ble_eq_true rfl) (Nat.le_of_ble_eq_true rfl)

set_option maxRecDepth 100000 in
set_option maxHeartbeats 4000000 in
/-- checkDifferent -/
theorem c_X7_checkDiff (E : zG) (l : Launch) (hl0 : l.stackTraces = false) (Z : va_W) (C : zLs) (i n : Int32) : vx_Met l yX7_checkDifferent wsX7_checkDifferent (zR 6 1 6) (zPre E [.int i, .int n] (zQ E Z C)) (va_Qv (fun (_ : Unit) => ¬ i = n) (fun _ t => zQ E Z C t.heap) (eA E)) (zX E (zQ E Z C) (fun nm => nm = zIAE ∧ i = n)) 1 6 (eA E) := by
  refine zx_of (cc := cX7_checkDifferent) (maxL := 2) (ret := none) (by decide) rfl rfl (Nat.le_of_ble_eq_true rfl) ?_
  intro p e s m below meth c ls ht Cx hr hnm hw hl
  have hx := Cx.1.1
  have hb := Cx.1.2.1
  have hl : lv_has ls 2 [(0, .int i), (1, .int n)] := hl
  refine lv_iload_n hx hb dX7_checkDifferent_0 rfl (lv_at hl 0 rfl) ?_
  refine lv_iload_n hx hb dX7_checkDifferent_1 rfl (lv_at hl 1 rfl) ?_
  refine lv_icmp_ne (tgt := 15) hx hb dX7_checkDifferent_2 (by decide) (fun c_2 => ?_) (fun c_2 => ?_)
  · skip
    exact vx_ret (z_vret (wf := fun _ => zQ E Z C) Cx hr (Nat.le_of_ble_eq_true rfl) (Nat.le_of_ble_eq_true rfl) () hw c_2 dX7_checkDifferent_15)
  · skip
    exact z_throw (is := 220) Cx hl0 ht hw (List.mem_of_getElem? (i := 20) rfl) (by decide) (List.mem_of_getElem? (i := 1) rfl) (List.mem_of_getElem? (i := 2) rfl) (fun _ h => List.mem_cons_of_mem _ (List.mem_append_right _ (h))) (by decide +kernel) (by decide +kernel) (by decide +kernel) hl.1 dX7_checkDifferent_5 dX7_checkDifferent_8 dX7_checkDifferent_9 dX7_checkDifferent_11 dX7_checkDifferent_14 (Nat.le_of_ble_eq_true rfl) (Nat.le_of_ble_eq_true rfl) (Nat.le_of_ble_eq_true rfl) (Nat.le_of_ble_eq_true rfl) ⟨rfl, c_2⟩ (fun _ h => h) (Nat.le_of_ble_eq_true rfl) (Nat.le_of_ble_eq_true rfl)

set_option maxRecDepth 100000 in
set_option maxHeartbeats 4000000 in
/-- singlePort -/
theorem c_X7_singlePort (E : zG) (l : Launch) (hl0 : l.stackTraces = false) (Z : va_W) (C : zLs) (i : Int32) : vx_Met l yX7_singlePort wsX7_singlePort (zR 6 1 6) (zPre E [.int i] (zQ E Z C)) (va_Qi (fun r (_ : Unit) => r = (1 : Int32) <<< (i &&& 31) ∧ ¬ i < 0 ∧ i < 16) (fun _ t => zQ E Z C t.heap) (eA E)) (zX E (zQ E Z C) (fun nm => nm = zIAE ∧ ¬ (¬ i < 0 ∧ i < 16))) 1 6 (eA E) := by
  refine zx_of (cc := cX7_singlePort) (maxL := 1) (ret := (some .int)) (by decide) rfl rfl (Nat.le_of_ble_eq_true rfl) ?_
  intro p e s m below meth c ls ht Cx hr hnm hw hl
  have hx := Cx.1.1
  have hb := Cx.1.2.1
  have hl : lv_has ls 1 [(0, .int i)] := hl
  refine lv_iload_n hx hb dX7_singlePort_0 rfl (lv_at hl 0 rfl) ?_
  refine lv_if_lt (tgt := 10) hx hb dX7_singlePort_1 (by decide) (fun c_1 => ?_) (fun c_1 => ?_)
  · skip
    exact z_throw (is := 218) Cx hl0 ht hw (List.mem_of_getElem? (i := 19) rfl) (by decide) (List.mem_of_getElem? (i := 1) rfl) (List.mem_of_getElem? (i := 2) rfl) (fun _ h => List.mem_cons_of_mem _ (List.mem_append_right _ (h))) (by decide +kernel) (by decide +kernel) (by decide +kernel) hl.1 dX7_singlePort_10 dX7_singlePort_13 dX7_singlePort_14 dX7_singlePort_16 dX7_singlePort_19 (Nat.le_of_ble_eq_true rfl) (Nat.le_of_ble_eq_true rfl) (Nat.le_of_ble_eq_true rfl) (Nat.le_of_ble_eq_true rfl) ⟨rfl, by first | exact fun h => h.1 c_1 | exact fun h => c_7 h.2⟩ (fun _ h => h) (Nat.le_of_ble_eq_true rfl) (Nat.le_of_ble_eq_true rfl)
  · skip
    refine lv_iload_n hx hb dX7_singlePort_4 rfl (lv_at hl 0 rfl) ?_
    refine lv_bipush (v := 16) hx hb dX7_singlePort_5 (by decide) ?_
    refine lv_icmp_lt (tgt := 20) hx hb dX7_singlePort_7 (by decide) (fun c_7 => ?_) (fun c_7 => ?_)
    · skip
      refine lv_iconst (v := 1) hx hb dX7_singlePort_20 (by decide) ?_
      refine lv_iload_n hx hb dX7_singlePort_21 rfl (lv_at hl 0 rfl) ?_
      refine lv_ishl hx hb dX7_singlePort_22 ?_
      exact vx_ret (z_iret (wf := fun _ => zQ E Z C) Cx hr rfl (Nat.le_of_ble_eq_true rfl) (Nat.le_of_ble_eq_true rfl) () hw ⟨rfl, c_1, c_7⟩ dX7_singlePort_23)
    · skip
      exact z_throw (is := 218) Cx hl0 ht hw (List.mem_of_getElem? (i := 19) rfl) (by decide) (List.mem_of_getElem? (i := 1) rfl) (List.mem_of_getElem? (i := 2) rfl) (fun _ h => List.mem_cons_of_mem _ (List.mem_append_right _ (h))) (by decide +kernel) (by decide +kernel) (by decide +kernel) hl.1 dX7_singlePort_10 dX7_singlePort_13 dX7_singlePort_14 dX7_singlePort_16 dX7_singlePort_19 (Nat.le_of_ble_eq_true rfl) (Nat.le_of_ble_eq_true rfl) (Nat.le_of_ble_eq_true rfl) (Nat.le_of_ble_eq_true rfl) ⟨rfl, by first | exact fun h => h.1 c_1 | exact fun h => c_7 h.2⟩ (fun _ h => h) (Nat.le_of_ble_eq_true rfl) (Nat.le_of_ble_eq_true rfl)

set_option maxRecDepth 100000 in
set_option maxHeartbeats 4000000 in
/-- portRange -/
theorem c_X7_portRange (E : zG) (l : Launch) (hl0 : l.stackTraces = false) (Z : va_W) (C : zLs) (f la : Int32) : vx_Met l yX7_portRange wsX7_portRange (zR 6 1 6) (zPre E [.int f, .int la] (zQ E Z C)) (va_Qi (fun r (_ : Unit) => r = zps f la ∧ zpok f la) (fun _ t => zQ E Z C t.heap) (eA E)) (zX E (zQ E Z C) (fun nm => nm = zIAE ∧ ¬ zpok f la)) 1 6 (eA E) := by
  refine zx_of (cc := cX7_portRange) (maxL := 2) (ret := (some .int)) (by decide) rfl rfl (Nat.le_of_ble_eq_true rfl) ?_
  intro p e s m below meth c ls ht Cx hr hnm hw hl
  have hx := Cx.1.1
  have hb := Cx.1.2.1
  have hl : lv_has ls 2 [(0, .int f), (1, .int la)] := hl
  refine lv_iload_n hx hb dX7_portRange_0 rfl (lv_at hl 0 rfl) ?_
  refine lv_if_lt (tgt := 15) hx hb dX7_portRange_1 (by decide) (fun c_1 => ?_) (fun c_1 => ?_)
  · skip
    exact z_throw (is := 216) Cx hl0 ht hw (List.mem_of_getElem? (i := 18) rfl) (by decide) (List.mem_of_getElem? (i := 1) rfl) (List.mem_of_getElem? (i := 2) rfl) (fun _ h => List.mem_cons_of_mem _ (List.mem_append_right _ (h))) (by decide +kernel) (by decide +kernel) (by decide +kernel) hl.1 dX7_portRange_15 dX7_portRange_18 dX7_portRange_19 dX7_portRange_21 dX7_portRange_24 (Nat.le_of_ble_eq_true rfl) (Nat.le_of_ble_eq_true rfl) (Nat.le_of_ble_eq_true rfl) (Nat.le_of_ble_eq_true rfl) ⟨rfl, by first | exact fun h => h.1 c_1 | exact fun h => h.2.1 c_6 | exact fun h => c_12 h.2.2⟩ (fun _ h => h) (Nat.le_of_ble_eq_true rfl) (Nat.le_of_ble_eq_true rfl)
  · skip
    refine lv_iload_n hx hb dX7_portRange_4 rfl (lv_at hl 1 rfl) ?_
    refine lv_iload_n hx hb dX7_portRange_5 rfl (lv_at hl 0 rfl) ?_
    refine lv_icmp_lt (tgt := 15) hx hb dX7_portRange_6 (by decide) (fun c_6 => ?_) (fun c_6 => ?_)
    · skip
      exact z_throw (is := 216) Cx hl0 ht hw (List.mem_of_getElem? (i := 18) rfl) (by decide) (List.mem_of_getElem? (i := 1) rfl) (List.mem_of_getElem? (i := 2) rfl) (fun _ h => List.mem_cons_of_mem _ (List.mem_append_right _ (h))) (by decide +kernel) (by decide +kernel) (by decide +kernel) hl.1 dX7_portRange_15 dX7_portRange_18 dX7_portRange_19 dX7_portRange_21 dX7_portRange_24 (Nat.le_of_ble_eq_true rfl) (Nat.le_of_ble_eq_true rfl) (Nat.le_of_ble_eq_true rfl) (Nat.le_of_ble_eq_true rfl) ⟨rfl, by first | exact fun h => h.1 c_1 | exact fun h => h.2.1 c_6 | exact fun h => c_12 h.2.2⟩ (fun _ h => h) (Nat.le_of_ble_eq_true rfl) (Nat.le_of_ble_eq_true rfl)
    · skip
      refine lv_iload_n hx hb dX7_portRange_9 rfl (lv_at hl 1 rfl) ?_
      refine lv_bipush (v := 16) hx hb dX7_portRange_10 (by decide) ?_
      refine lv_icmp_lt (tgt := 25) hx hb dX7_portRange_12 (by decide) (fun c_12 => ?_) (fun c_12 => ?_)
      · skip
        refine lv_iconst (v := 1) hx hb dX7_portRange_25 (by decide) ?_
        refine lv_iload_n hx hb dX7_portRange_26 rfl (lv_at hl 1 rfl) ?_
        refine lv_iconst (v := 1) hx hb dX7_portRange_27 (by decide) ?_
        refine lv_iadd hx hb dX7_portRange_28 ?_
        refine lv_ishl hx hb dX7_portRange_29 ?_
        refine lv_iconst (v := 1) hx hb dX7_portRange_30 (by decide) ?_
        refine lv_iload_n hx hb dX7_portRange_31 rfl (lv_at hl 0 rfl) ?_
        refine lv_ishl hx hb dX7_portRange_32 ?_
        refine lv_isub hx hb dX7_portRange_33 ?_
        exact vx_ret (z_iret (wf := fun _ => zQ E Z C) Cx hr rfl (Nat.le_of_ble_eq_true rfl) (Nat.le_of_ble_eq_true rfl) () hw ⟨rfl, c_1, c_6, c_12⟩ dX7_portRange_34)
      · skip
        exact z_throw (is := 216) Cx hl0 ht hw (List.mem_of_getElem? (i := 18) rfl) (by decide) (List.mem_of_getElem? (i := 1) rfl) (List.mem_of_getElem? (i := 2) rfl) (fun _ h => List.mem_cons_of_mem _ (List.mem_append_right _ (h))) (by decide +kernel) (by decide +kernel) (by decide +kernel) hl.1 dX7_portRange_15 dX7_portRange_18 dX7_portRange_19 dX7_portRange_21 dX7_portRange_24 (Nat.le_of_ble_eq_true rfl) (Nat.le_of_ble_eq_true rfl) (Nat.le_of_ble_eq_true rfl) (Nat.le_of_ble_eq_true rfl) ⟨rfl, by first | exact fun h => h.1 c_1 | exact fun h => h.2.1 c_6 | exact fun h => c_12 h.2.2⟩ (fun _ h => h) (Nat.le_of_ble_eq_true rfl) (Nat.le_of_ble_eq_true rfl)

set_option maxRecDepth 100000 in
set_option maxHeartbeats 4000000 in
/-- Block() -/
theorem c_X0_init (E : zG) (l : Launch) (X Y : va_W) (C : zLs) (q : Nat) (hfr : ∀ x ∈ Y, x.1 ≠ q) (b k : Int32) : Met l yX0_init wsX0_init (zR 1 0 0) (zPre E [.ref q, .int b, .int k] (zQ E (X ++ (Y ++ [(q, Sum.inr (3, [.int 0, .int 0]))])) C)) (zRv E (zQ E (X ++ (Y ++ [(q, Sum.inr (3, [.int b, .int k]))])) C)) 0 0 (eA E) := by
  refine z_of (cc := cX0_init) (maxL := 3) (ret := none) (by decide) rfl rfl (Nat.le_of_ble_eq_true rfl) ?_
  intro p e s m below meth c ls Cx hr hnm hw hl
  have hx := Cx.1.1
  have hb := Cx.1.2.1
  have hl : lv_has ls 3 [(0, .ref q), (1, .int b), (2, .int k)] := hl
  refine lv_aload_n hx hb dX0_init_0 rfl (lv_at hl 0 rfl) ?_
  refine W.objInit hx hb Cx.1.2.2.2.1 (Cx.1.2.2.2.2 _ (List.mem_of_getElem? (i := 1) rfl)) (Cx.1.2.2.2.2 (.instanceMethod objectInit) (List.mem_of_getElem? (i := 2) rfl)) (Cx.1.2.2.2.2 (.code objectInit ⟨#[0xb1]⟩ 1 none) (List.mem_of_getElem? (i := 3) rfl)) rfl (hl.1.trans Cx.1.2.2.1.symm) rfl dX0_init_1 (Nat.le_of_ble_eq_true rfl) (Nat.le_of_ble_eq_true rfl) ?_
  refine W.eq (g2 := F0 m 4 ls _) rfl ?_
  refine lv_aload_n hx hb dX0_init_4 rfl (lv_at hl 0 rfl) ?_
  refine lv_iload_n hx hb dX0_init_5 rfl (lv_at hl 1 rfl) ?_
  refine z_putF Cx (X := X) (Y := Y ++ [(q, Sum.inr (3, [.int 0, .int 0]))]) hw (T := TX0) (N := 2) (ci := 3) (ty := .int) (fun _ h => List.mem_cons_of_mem _ (List.mem_append_right _ (h))) tyX0 tyX0_ok nmX0 z_m1 rfl 0 (by decide) (List.mem_of_getElem? (i := 4) rfl) rfl rfl hnm rfl (by decide +kernel) rfl rfl (Nat.le_of_ble_eq_true rfl) dX0_init_6 (fun H locs hw2 => ?_)
  have hw : zHA E (X ++ (Y ++ [(q, Sum.inr (3, [.int b, .int 0]))])) C s H locs := by rw [zset_last hfr] at hw2; exact hw2
  refine lv_aload_n hx hb dX0_init_9 rfl (lv_at hl 0 rfl) ?_
  refine lv_iload_n hx hb dX0_init_10 rfl (lv_at hl 2 rfl) ?_
  refine z_putF Cx (X := X) (Y := Y ++ [(q, Sum.inr (3, [.int b, .int 0]))]) hw (T := TX0) (N := 2) (ci := 3) (ty := .int) (fun _ h => List.mem_cons_of_mem _ (List.mem_append_right _ (h))) tyX0 tyX0_ok nmX0 z_m1 rfl 1 (by decide) (List.mem_of_getElem? (i := 5) rfl) rfl rfl hnm rfl (by decide +kernel) rfl rfl (Nat.le_of_ble_eq_true rfl) dX0_init_11 (fun H locs hw2 => ?_)
  have hw : zHA E (X ++ (Y ++ [(q, Sum.inr (3, [.int b, .int k]))])) C s H locs := by rw [zset_last hfr] at hw2; exact hw2
  exact (z_ve Cx hr (Nat.le_of_ble_eq_true rfl) (Nat.le_of_ble_eq_true rfl) hw dX0_init_14)

set_option maxRecDepth 100000 in
set_option maxHeartbeats 4000000 in
/-- Host() -/
theorem c_X2_init (E : zG) (l : Launch) (X Y : va_W) (C : zLs) (q : Nat) (hfr : ∀ x ∈ Y, x.1 ≠ q) (sb : Nat) (ad : Int32) : Met l yX2_init wsX2_init (zR 1 0 0) (zPre E [.ref q, .ref sb, .int ad] (zQ E (X ++ (Y ++ [(q, Sum.inr (5, [.null, .int 0, .int 0]))])) C)) (zRv E (zQ E (X ++ (Y ++ [(q, Sum.inr (5, [.ref sb, .int ad, .int 0]))])) C)) 0 0 (eA E) := by
  refine z_of (cc := cX2_init) (maxL := 3) (ret := none) (by decide) rfl rfl (Nat.le_of_ble_eq_true rfl) ?_
  intro p e s m below meth c ls Cx hr hnm hw hl
  have hx := Cx.1.1
  have hb := Cx.1.2.1
  have hl : lv_has ls 3 [(0, .ref q), (1, .ref sb), (2, .int ad)] := hl
  refine lv_aload_n hx hb dX2_init_0 rfl (lv_at hl 0 rfl) ?_
  refine W.objInit hx hb Cx.1.2.2.2.1 (Cx.1.2.2.2.2 _ (List.mem_of_getElem? (i := 1) rfl)) (Cx.1.2.2.2.2 (.instanceMethod objectInit) (List.mem_of_getElem? (i := 2) rfl)) (Cx.1.2.2.2.2 (.code objectInit ⟨#[0xb1]⟩ 1 none) (List.mem_of_getElem? (i := 3) rfl)) rfl (hl.1.trans Cx.1.2.2.1.symm) rfl dX2_init_1 (Nat.le_of_ble_eq_true rfl) (Nat.le_of_ble_eq_true rfl) ?_
  refine W.eq (g2 := F0 m 4 ls _) rfl ?_
  refine lv_aload_n hx hb dX2_init_4 rfl (lv_at hl 0 rfl) ?_
  refine lv_aload_n hx hb dX2_init_5 rfl (lv_at hl 1 rfl) ?_
  refine z_putF Cx (X := X) (Y := Y ++ [(q, Sum.inr (5, [.null, .int 0, .int 0]))]) hw (T := TX2) (N := 3) (ci := 5) (ty := .object "CloudPaths$Subnet") (fun _ h => List.mem_cons_of_mem _ (List.mem_append_right _ (h))) tyX2 tyX2_ok nmX2 z_m1 rfl 0 (by decide) (List.mem_of_getElem? (i := 4) rfl) rfl rfl hnm rfl (by decide +kernel) rfl rfl (Nat.le_of_ble_eq_true rfl) dX2_init_6 (fun H locs hw2 => ?_)
  have hw : zHA E (X ++ (Y ++ [(q, Sum.inr (5, [.ref sb, .int 0, .int 0]))])) C s H locs := by rw [zset_last hfr] at hw2; exact hw2
  refine lv_aload_n hx hb dX2_init_9 rfl (lv_at hl 0 rfl) ?_
  refine lv_iload_n hx hb dX2_init_10 rfl (lv_at hl 2 rfl) ?_
  refine z_putF Cx (X := X) (Y := Y ++ [(q, Sum.inr (5, [.ref sb, .int 0, .int 0]))]) hw (T := TX2) (N := 3) (ci := 5) (ty := .int) (fun _ h => List.mem_cons_of_mem _ (List.mem_append_right _ (h))) tyX2 tyX2_ok nmX2 z_m1 rfl 1 (by decide) (List.mem_of_getElem? (i := 5) rfl) rfl rfl hnm rfl (by decide +kernel) rfl rfl (Nat.le_of_ble_eq_true rfl) dX2_init_11 (fun H locs hw2 => ?_)
  have hw : zHA E (X ++ (Y ++ [(q, Sum.inr (5, [.ref sb, .int ad, .int 0]))])) C s H locs := by rw [zset_last hfr] at hw2; exact hw2
  exact (z_ve Cx hr (Nat.le_of_ble_eq_true rfl) (Nat.le_of_ble_eq_true rfl) hw dX2_init_14)

set_option maxRecDepth 100000 in
set_option maxHeartbeats 4000000 in
/-- Peering() -/
theorem c_X3_init (E : zG) (l : Launch) (X Y : va_W) (C : zLs) (q : Nat) (hfr : ∀ x ∈ Y, x.1 ≠ q) (o1 o2 : Nat) : Met l yX3_init wsX3_init (zR 1 0 0) (zPre E [.ref q, .ref o1, .ref o2] (zQ E (X ++ (Y ++ [(q, Sum.inr (6, [.null, .null]))])) C)) (zRv E (zQ E (X ++ (Y ++ [(q, Sum.inr (6, [.ref o1, .ref o2]))])) C)) 0 0 (eA E) := by
  refine z_of (cc := cX3_init) (maxL := 3) (ret := none) (by decide) rfl rfl (Nat.le_of_ble_eq_true rfl) ?_
  intro p e s m below meth c ls Cx hr hnm hw hl
  have hx := Cx.1.1
  have hb := Cx.1.2.1
  have hl : lv_has ls 3 [(0, .ref q), (1, .ref o1), (2, .ref o2)] := hl
  refine lv_aload_n hx hb dX3_init_0 rfl (lv_at hl 0 rfl) ?_
  refine W.objInit hx hb Cx.1.2.2.2.1 (Cx.1.2.2.2.2 _ (List.mem_of_getElem? (i := 1) rfl)) (Cx.1.2.2.2.2 (.instanceMethod objectInit) (List.mem_of_getElem? (i := 2) rfl)) (Cx.1.2.2.2.2 (.code objectInit ⟨#[0xb1]⟩ 1 none) (List.mem_of_getElem? (i := 3) rfl)) rfl (hl.1.trans Cx.1.2.2.1.symm) rfl dX3_init_1 (Nat.le_of_ble_eq_true rfl) (Nat.le_of_ble_eq_true rfl) ?_
  refine W.eq (g2 := F0 m 4 ls _) rfl ?_
  refine lv_aload_n hx hb dX3_init_4 rfl (lv_at hl 0 rfl) ?_
  refine lv_aload_n hx hb dX3_init_5 rfl (lv_at hl 1 rfl) ?_
  refine z_putF Cx (X := X) (Y := Y ++ [(q, Sum.inr (6, [.null, .null]))]) hw (T := TX3) (N := 2) (ci := 6) (ty := .object "CloudPaths$Block") (fun _ h => List.mem_cons_of_mem _ (List.mem_append_right _ (h))) tyX3 tyX3_ok nmX3 z_m1 rfl 0 (by decide) (List.mem_of_getElem? (i := 4) rfl) rfl rfl hnm rfl (by decide +kernel) rfl rfl (Nat.le_of_ble_eq_true rfl) dX3_init_6 (fun H locs hw2 => ?_)
  have hw : zHA E (X ++ (Y ++ [(q, Sum.inr (6, [.ref o1, .null]))])) C s H locs := by rw [zset_last hfr] at hw2; exact hw2
  refine lv_aload_n hx hb dX3_init_9 rfl (lv_at hl 0 rfl) ?_
  refine lv_aload_n hx hb dX3_init_10 rfl (lv_at hl 2 rfl) ?_
  refine z_putF Cx (X := X) (Y := Y ++ [(q, Sum.inr (6, [.ref o1, .null]))]) hw (T := TX3) (N := 2) (ci := 6) (ty := .object "CloudPaths$Block") (fun _ h => List.mem_cons_of_mem _ (List.mem_append_right _ (h))) tyX3 tyX3_ok nmX3 z_m1 rfl 1 (by decide) (List.mem_of_getElem? (i := 5) rfl) rfl rfl hnm rfl (by decide +kernel) rfl rfl (Nat.le_of_ble_eq_true rfl) dX3_init_11 (fun H locs hw2 => ?_)
  have hw : zHA E (X ++ (Y ++ [(q, Sum.inr (6, [.ref o1, .ref o2]))])) C s H locs := by rw [zset_last hfr] at hw2; exact hw2
  exact (z_ve Cx hr (Nat.le_of_ble_eq_true rfl) (Nat.le_of_ble_eq_true rfl) hw dX3_init_14)

set_option maxRecDepth 100000 in
set_option maxHeartbeats 4000000 in
/-- Route() -/
theorem c_X4_init (E : zG) (l : Launch) (X Y : va_W) (C : zLs) (q : Nat) (hfr : ∀ x ∈ Y, x.1 ≠ q) (bk : Nat) (pe : Int32) : Met l yX4_init wsX4_init (zR 1 0 0) (zPre E [.ref q, .ref bk, .int pe] (zQ E (X ++ (Y ++ [(q, Sum.inr (7, [.null, .int 0]))])) C)) (zRv E (zQ E (X ++ (Y ++ [(q, Sum.inr (7, [.ref bk, .int pe]))])) C)) 0 0 (eA E) := by
  refine z_of (cc := cX4_init) (maxL := 3) (ret := none) (by decide) rfl rfl (Nat.le_of_ble_eq_true rfl) ?_
  intro p e s m below meth c ls Cx hr hnm hw hl
  have hx := Cx.1.1
  have hb := Cx.1.2.1
  have hl : lv_has ls 3 [(0, .ref q), (1, .ref bk), (2, .int pe)] := hl
  refine lv_aload_n hx hb dX4_init_0 rfl (lv_at hl 0 rfl) ?_
  refine W.objInit hx hb Cx.1.2.2.2.1 (Cx.1.2.2.2.2 _ (List.mem_of_getElem? (i := 1) rfl)) (Cx.1.2.2.2.2 (.instanceMethod objectInit) (List.mem_of_getElem? (i := 2) rfl)) (Cx.1.2.2.2.2 (.code objectInit ⟨#[0xb1]⟩ 1 none) (List.mem_of_getElem? (i := 3) rfl)) rfl (hl.1.trans Cx.1.2.2.1.symm) rfl dX4_init_1 (Nat.le_of_ble_eq_true rfl) (Nat.le_of_ble_eq_true rfl) ?_
  refine W.eq (g2 := F0 m 4 ls _) rfl ?_
  refine lv_aload_n hx hb dX4_init_4 rfl (lv_at hl 0 rfl) ?_
  refine lv_aload_n hx hb dX4_init_5 rfl (lv_at hl 1 rfl) ?_
  refine z_putF Cx (X := X) (Y := Y ++ [(q, Sum.inr (7, [.null, .int 0]))]) hw (T := TX4) (N := 2) (ci := 7) (ty := .object "CloudPaths$Block") (fun _ h => List.mem_cons_of_mem _ (List.mem_append_right _ (h))) tyX4 tyX4_ok nmX4 z_m1 rfl 0 (by decide) (List.mem_of_getElem? (i := 4) rfl) rfl rfl hnm rfl (by decide +kernel) rfl rfl (Nat.le_of_ble_eq_true rfl) dX4_init_6 (fun H locs hw2 => ?_)
  have hw : zHA E (X ++ (Y ++ [(q, Sum.inr (7, [.ref bk, .int 0]))])) C s H locs := by rw [zset_last hfr] at hw2; exact hw2
  refine lv_aload_n hx hb dX4_init_9 rfl (lv_at hl 0 rfl) ?_
  refine lv_iload_n hx hb dX4_init_10 rfl (lv_at hl 2 rfl) ?_
  refine z_put Cx (X := X) (Y := Y ++ [(q, Sum.inr (7, [.ref bk, .int 0]))]) hw (T := TX4) (N := 2) (ci := 7) (ty := .int) (fun _ h => List.mem_cons_of_mem _ (List.mem_append_right _ (h))) tyX4 tyX4_ok nmX4 z_m1 rfl 1 (by decide) (List.mem_of_getElem? (i := 5) rfl) rfl rfl (by decide +kernel) rfl rfl (Nat.le_of_ble_eq_true rfl) dX4_init_11 (fun H locs hw2 => ?_)
  have hw : zHA E (X ++ (Y ++ [(q, Sum.inr (7, [.ref bk, .int pe]))])) C s H locs := by rw [zset_last hfr] at hw2; exact hw2
  exact (z_ve Cx hr (Nat.le_of_ble_eq_true rfl) (Nat.le_of_ble_eq_true rfl) hw dX4_init_14)

set_option maxRecDepth 100000 in
set_option maxHeartbeats 4000000 in
/-- Rule() -/
theorem c_X5_init (E : zG) (l : Launch) (X Y : va_W) (C : zLs) (q : Nat) (hfr : ∀ x ∈ Y, x.1 ≠ q) (i al : Bool) (bk : Nat) (ps : Int32) : Met l yX5_init wsX5_init (zR 1 0 0) (zPre E [.ref q, .int (zb i), .int (zb al), .ref bk, .int ps] (zQ E (X ++ (Y ++ [(q, Sum.inr (8, [.int 0, .int 0, .null, .int 0]))])) C)) (zRv E (zQ E (X ++ (Y ++ [(q, Sum.inr (8, [.int (zb i), .int (zb al), .ref bk, .int ps]))])) C)) 0 0 (eA E) := by
  refine z_of (cc := cX5_init) (maxL := 5) (ret := none) (by decide) rfl rfl (Nat.le_of_ble_eq_true rfl) ?_
  intro p e s m below meth c ls Cx hr hnm hw hl
  have hx := Cx.1.1
  have hb := Cx.1.2.1
  have hl : lv_has ls 5 [(0, .ref q), (1, .int (zb i)), (2, .int (zb al)), (3, .ref bk), (4, .int ps)] := hl
  refine lv_aload_n hx hb dX5_init_0 rfl (lv_at hl 0 rfl) ?_
  refine W.objInit hx hb Cx.1.2.2.2.1 (Cx.1.2.2.2.2 _ (List.mem_of_getElem? (i := 1) rfl)) (Cx.1.2.2.2.2 (.instanceMethod objectInit) (List.mem_of_getElem? (i := 2) rfl)) (Cx.1.2.2.2.2 (.code objectInit ⟨#[0xb1]⟩ 1 none) (List.mem_of_getElem? (i := 3) rfl)) rfl (hl.1.trans Cx.1.2.2.1.symm) rfl dX5_init_1 (Nat.le_of_ble_eq_true rfl) (Nat.le_of_ble_eq_true rfl) ?_
  refine W.eq (g2 := F0 m 4 ls _) rfl ?_
  refine lv_aload_n hx hb dX5_init_4 rfl (lv_at hl 0 rfl) ?_
  refine lv_iload_n hx hb dX5_init_5 rfl (lv_at hl 1 rfl) ?_
  refine z_putF Cx (X := X) (Y := Y ++ [(q, Sum.inr (8, [.int 0, .int 0, .null, .int 0]))]) hw (T := TX5) (N := 4) (ci := 8) (ty := .boolean) (fun _ h => List.mem_cons_of_mem _ (List.mem_append_right _ (h))) tyX5 tyX5_ok nmX5 z_m1 rfl 0 (by decide) (List.mem_of_getElem? (i := 4) rfl) rfl rfl hnm rfl (by decide +kernel) (zb_n i) (zb_f i) (Nat.le_of_ble_eq_true rfl) dX5_init_6 (fun H locs hw2 => ?_)
  have hw : zHA E (X ++ (Y ++ [(q, Sum.inr (8, [.int (zb i), .int 0, .null, .int 0]))])) C s H locs := by rw [zset_last hfr] at hw2; exact hw2
  refine lv_aload_n hx hb dX5_init_9 rfl (lv_at hl 0 rfl) ?_
  refine lv_iload_n hx hb dX5_init_10 rfl (lv_at hl 2 rfl) ?_
  refine z_putF Cx (X := X) (Y := Y ++ [(q, Sum.inr (8, [.int (zb i), .int 0, .null, .int 0]))]) hw (T := TX5) (N := 4) (ci := 8) (ty := .boolean) (fun _ h => List.mem_cons_of_mem _ (List.mem_append_right _ (h))) tyX5 tyX5_ok nmX5 z_m1 rfl 1 (by decide) (List.mem_of_getElem? (i := 5) rfl) rfl rfl hnm rfl (by decide +kernel) (zb_n al) (zb_f al) (Nat.le_of_ble_eq_true rfl) dX5_init_11 (fun H locs hw2 => ?_)
  have hw : zHA E (X ++ (Y ++ [(q, Sum.inr (8, [.int (zb i), .int (zb al), .null, .int 0]))])) C s H locs := by rw [zset_last hfr] at hw2; exact hw2
  refine lv_aload_n hx hb dX5_init_14 rfl (lv_at hl 0 rfl) ?_
  refine lv_aload_n hx hb dX5_init_15 rfl (lv_at hl 3 rfl) ?_
  refine z_putF Cx (X := X) (Y := Y ++ [(q, Sum.inr (8, [.int (zb i), .int (zb al), .null, .int 0]))]) hw (T := TX5) (N := 4) (ci := 8) (ty := .object "CloudPaths$Block") (fun _ h => List.mem_cons_of_mem _ (List.mem_append_right _ (h))) tyX5 tyX5_ok nmX5 z_m1 rfl 2 (by decide) (List.mem_of_getElem? (i := 6) rfl) rfl rfl hnm rfl (by decide +kernel) rfl rfl (Nat.le_of_ble_eq_true rfl) dX5_init_16 (fun H locs hw2 => ?_)
  have hw : zHA E (X ++ (Y ++ [(q, Sum.inr (8, [.int (zb i), .int (zb al), .ref bk, .int 0]))])) C s H locs := by rw [zset_last hfr] at hw2; exact hw2
  refine lv_aload_n hx hb dX5_init_19 rfl (lv_at hl 0 rfl) ?_
  refine lv_iload hx hb dX5_init_20 (lv_at hl 4 rfl) ?_
  refine z_putF Cx (X := X) (Y := Y ++ [(q, Sum.inr (8, [.int (zb i), .int (zb al), .ref bk, .int 0]))]) hw (T := TX5) (N := 4) (ci := 8) (ty := .int) (fun _ h => List.mem_cons_of_mem _ (List.mem_append_right _ (h))) tyX5 tyX5_ok nmX5 z_m1 rfl 3 (by decide) (List.mem_of_getElem? (i := 7) rfl) rfl rfl hnm rfl (by decide +kernel) rfl rfl (Nat.le_of_ble_eq_true rfl) dX5_init_22 (fun H locs hw2 => ?_)
  have hw : zHA E (X ++ (Y ++ [(q, Sum.inr (8, [.int (zb i), .int (zb al), .ref bk, .int ps]))])) C s H locs := by rw [zset_last hfr] at hw2; exact hw2
  exact (z_ve Cx hr (Nat.le_of_ble_eq_true rfl) (Nat.le_of_ble_eq_true rfl) hw dX5_init_25)

set_option maxRecDepth 100000 in
set_option maxHeartbeats 4000000 in
/-- blockOf -/
theorem c_X7_blockOf (E : zG) (l : Launch) (hl0 : l.stackTraces = false) (X Y : va_W) (C : zLs) (b k : Int32) : vx_Met l yX7_blockOf wsX7_blockOf (zR 6 1 6) (zPre E [.int b, .int k] (zQ E (X ++ Y) C)) (va_Qr (fun (q : Nat) => zbok b k ∧ ∀ x ∈ X ++ Y, x.1 ≠ q) (fun q a t => a = q ∧ zQ E (X ++ (Y ++ [(q, Sum.inr (3, [.int b, .int k]))])) C t.heap) (eA E)) (zX E (zQ E (X ++ Y) C) (fun nm => nm = zIAE ∧ ¬ zbok b k)) 1 6 (eA E) := by
  refine zx_of (cc := cX7_blockOf) (maxL := 2) (ret := (some (.object "CloudPaths$Block"))) (by decide) rfl rfl (Nat.le_of_ble_eq_true rfl) ?_
  intro p e s m below meth c ls ht Cx hr hnm hw hl
  have hx := Cx.1.1
  have hb := Cx.1.2.1
  have hl : lv_has ls 2 [(0, .int b), (1, .int k)] := hl
  refine lv_iload_n hx hb dX7_blockOf_0 rfl (lv_at hl 1 rfl) ?_
  refine lv_if_lt (tgt := 31) hx hb dX7_blockOf_1 (by decide) (fun c_1 => ?_) (fun c_1 => ?_)
  · skip
    exact z_throw (is := 212) Cx hl0 ht hw (List.mem_of_getElem? (i := 17) rfl) (by decide) (List.mem_of_getElem? (i := 1) rfl) (List.mem_of_getElem? (i := 2) rfl) (fun _ h => List.mem_cons_of_mem _ (List.mem_append_right _ (h))) (by decide +kernel) (by decide +kernel) (by decide +kernel) hl.1 dX7_blockOf_31 dX7_blockOf_34 dX7_blockOf_35 dX7_blockOf_37 dX7_blockOf_40 (Nat.le_of_ble_eq_true rfl) (Nat.le_of_ble_eq_true rfl) (Nat.le_of_ble_eq_true rfl) (Nat.le_of_ble_eq_true rfl) ⟨rfl, by first | exact fun h => h.1 c_1 | exact fun h => h.2.1 c_7 | exact fun h => h.2.2.1 c_11 | exact fun h => Int32.not_le.mpr h.2.2.2.1 c_18 | exact fun h => c_28 h.2.2.2.2⟩ (fun _ h => h) (Nat.le_of_ble_eq_true rfl) (Nat.le_of_ble_eq_true rfl)
  · skip
    refine lv_iload_n hx hb dX7_blockOf_4 rfl (lv_at hl 1 rfl) ?_
    refine lv_bipush (v := 10) hx hb dX7_blockOf_5 (by decide) ?_
    refine lv_icmp_gt (tgt := 31) hx hb dX7_blockOf_7 (by decide) (fun c_7 => ?_) (fun c_7 => ?_)
    · skip
      exact z_throw (is := 212) Cx hl0 ht hw (List.mem_of_getElem? (i := 17) rfl) (by decide) (List.mem_of_getElem? (i := 1) rfl) (List.mem_of_getElem? (i := 2) rfl) (fun _ h => List.mem_cons_of_mem _ (List.mem_append_right _ (h))) (by decide +kernel) (by decide +kernel) (by decide +kernel) hl.1 dX7_blockOf_31 dX7_blockOf_34 dX7_blockOf_35 dX7_blockOf_37 dX7_blockOf_40 (Nat.le_of_ble_eq_true rfl) (Nat.le_of_ble_eq_true rfl) (Nat.le_of_ble_eq_true rfl) (Nat.le_of_ble_eq_true rfl) ⟨rfl, by first | exact fun h => h.1 c_1 | exact fun h => h.2.1 c_7 | exact fun h => h.2.2.1 c_11 | exact fun h => Int32.not_le.mpr h.2.2.2.1 c_18 | exact fun h => c_28 h.2.2.2.2⟩ (fun _ h => h) (Nat.le_of_ble_eq_true rfl) (Nat.le_of_ble_eq_true rfl)
    · skip
      refine lv_iload_n hx hb dX7_blockOf_10 rfl (lv_at hl 0 rfl) ?_
      refine lv_if_lt (tgt := 31) hx hb dX7_blockOf_11 (by decide) (fun c_11 => ?_) (fun c_11 => ?_)
      · skip
        exact z_throw (is := 212) Cx hl0 ht hw (List.mem_of_getElem? (i := 17) rfl) (by decide) (List.mem_of_getElem? (i := 1) rfl) (List.mem_of_getElem? (i := 2) rfl) (fun _ h => List.mem_cons_of_mem _ (List.mem_append_right _ (h))) (by decide +kernel) (by decide +kernel) (by decide +kernel) hl.1 dX7_blockOf_31 dX7_blockOf_34 dX7_blockOf_35 dX7_blockOf_37 dX7_blockOf_40 (Nat.le_of_ble_eq_true rfl) (Nat.le_of_ble_eq_true rfl) (Nat.le_of_ble_eq_true rfl) (Nat.le_of_ble_eq_true rfl) ⟨rfl, by first | exact fun h => h.1 c_1 | exact fun h => h.2.1 c_7 | exact fun h => h.2.2.1 c_11 | exact fun h => Int32.not_le.mpr h.2.2.2.1 c_18 | exact fun h => c_28 h.2.2.2.2⟩ (fun _ h => h) (Nat.le_of_ble_eq_true rfl) (Nat.le_of_ble_eq_true rfl)
      · skip
        refine lv_iload_n hx hb dX7_blockOf_14 rfl (lv_at hl 0 rfl) ?_
        refine lv_sipush (v := 1024) hx hb dX7_blockOf_15 (by decide) ?_
        refine lv_icmp_ge (tgt := 31) hx hb dX7_blockOf_18 (by decide) (fun c_18 => ?_) (fun c_18 => ?_)
        · skip
          exact z_throw (is := 212) Cx hl0 ht hw (List.mem_of_getElem? (i := 17) rfl) (by decide) (List.mem_of_getElem? (i := 1) rfl) (List.mem_of_getElem? (i := 2) rfl) (fun _ h => List.mem_cons_of_mem _ (List.mem_append_right _ (h))) (by decide +kernel) (by decide +kernel) (by decide +kernel) hl.1 dX7_blockOf_31 dX7_blockOf_34 dX7_blockOf_35 dX7_blockOf_37 dX7_blockOf_40 (Nat.le_of_ble_eq_true rfl) (Nat.le_of_ble_eq_true rfl) (Nat.le_of_ble_eq_true rfl) (Nat.le_of_ble_eq_true rfl) ⟨rfl, by first | exact fun h => h.1 c_1 | exact fun h => h.2.1 c_7 | exact fun h => h.2.2.1 c_11 | exact fun h => Int32.not_le.mpr h.2.2.2.1 c_18 | exact fun h => c_28 h.2.2.2.2⟩ (fun _ h => h) (Nat.le_of_ble_eq_true rfl) (Nat.le_of_ble_eq_true rfl)
        · skip
          refine lv_iload_n hx hb dX7_blockOf_21 rfl (lv_at hl 0 rfl) ?_
          refine lv_iconst (v := 1) hx hb dX7_blockOf_22 (by decide) ?_
          refine lv_iload_n hx hb dX7_blockOf_23 rfl (lv_at hl 1 rfl) ?_
          refine lv_ishl hx hb dX7_blockOf_24 ?_
          refine lv_iconst (v := 1) hx hb dX7_blockOf_25 (by decide) ?_
          refine lv_isub hx hb dX7_blockOf_26 ?_
          refine lv_iand hx hb dX7_blockOf_27 ?_
          refine lv_if_eq (tgt := 41) hx hb dX7_blockOf_28 (by decide) (fun c_28 => ?_) (fun c_28 => ?_)
          · skip
            refine z_new Cx hw (T := TX0) (N := 2) (ci := 3) (fs := [.int 0, .int 0]) (fun _ h => List.mem_cons_of_mem _ (List.mem_append_left _ (List.mem_append_right _ (h)))) tyX0 tyX0_ok (List.mem_of_getElem? (i := 3) rfl) (List.mem_of_getElem? (i := 4) rfl) (List.mem_of_getElem? (i := 5) rfl) rfl (fun j hj => by rcases (show j = 0 ∨ j = 1 by omega) with rfl | rfl <;> rfl) (Nat.le_of_ble_eq_true rfl) (Nat.le_of_ble_eq_true rfl) dX7_blockOf_41 (fun q H hfr hw => ?_)
            refine lv_dup hx hb dX7_blockOf_44 rfl ?_
            refine lv_iload_n hx hb dX7_blockOf_45 rfl (lv_at hl 0 rfl) ?_
            refine lv_iload_n hx hb dX7_blockOf_46 rfl (lv_at hl 1 rfl) ?_
            refine z_goev hw.2 (z_runI Cx hw (c_X0_init E l X Y C q (fun x h => hfr x (List.mem_append_right X h)) b k) (cwI 2 Cx.1.2.2.2.2 gX7_blockOf_X0_init rfl rfl rfl (Cx.1.2.2.2.2 (.initialized RX0) (List.mem_of_getElem? (i := 5) rfl)) (Cx.1.2.2.2.2 (.methodLink RX7 214 yX0_init) (List.mem_of_getElem? (i := 6) rfl)) (Cx.1.2.2.2.2 (.instanceMethod yX0_init) (List.mem_of_getElem? (i := 7) rfl)) rfl (by decide +kernel) ⟨Nat.le_of_ble_eq_true rfl, Nat.le_of_ble_eq_true rfl⟩)  rfl hl.1 rfl (Nat.le_of_ble_eq_true rfl) dX7_blockOf_47 ⟨Nat.le_of_ble_eq_true rfl, Nat.le_of_ble_eq_true rfl⟩) (fun H locs hw => ?_)
            exact vx_ret (z_aret (pr := fun (q : Nat) a => a = q) (wf := fun q => zQ E (X ++ (Y ++ [(q, Sum.inr (3, [.int b, .int k]))])) C) Cx hr (Or.inl ⟨_, rfl⟩) (Nat.le_of_ble_eq_true rfl) (Nat.le_of_ble_eq_true rfl) q hw ⟨⟨c_1, c_7, c_11, Int32.not_le.mp c_18, c_28⟩, hfr⟩ rfl dX7_blockOf_50)
          · skip
            exact z_throw (is := 212) Cx hl0 ht hw (List.mem_of_getElem? (i := 17) rfl) (by decide) (List.mem_of_getElem? (i := 1) rfl) (List.mem_of_getElem? (i := 2) rfl) (fun _ h => List.mem_cons_of_mem _ (List.mem_append_right _ (h))) (by decide +kernel) (by decide +kernel) (by decide +kernel) hl.1 dX7_blockOf_31 dX7_blockOf_34 dX7_blockOf_35 dX7_blockOf_37 dX7_blockOf_40 (Nat.le_of_ble_eq_true rfl) (Nat.le_of_ble_eq_true rfl) (Nat.le_of_ble_eq_true rfl) (Nat.le_of_ble_eq_true rfl) ⟨rfl, by first | exact fun h => h.1 c_1 | exact fun h => h.2.1 c_7 | exact fun h => h.2.2.1 c_11 | exact fun h => Int32.not_le.mpr h.2.2.2.1 c_18 | exact fun h => c_28 h.2.2.2.2⟩ (fun _ h => h) (Nat.le_of_ble_eq_true rfl) (Nat.le_of_ble_eq_true rfl)

set_option maxRecDepth 100000 in
set_option maxHeartbeats 4000000 in
/-- networkAt -/
theorem c_X7_networkAt (E : zG) (l : Launch) (hl0 : l.stackTraces = false) (Z : va_W) (C : zLs) (x q0 q1 q2 q3 q4 : Nat) (es : List Nat) (hx0 : (x, Sum.inr (10, [.ref q0, .ref q1, .ref q2, .ref q3, .ref q4])) ∈ Z) (hq : C q0 = some es) (hn : es.length ≤ 1000) (hel : ∀ y ∈ es, ∃ fs : List Value, (y, Sum.inr (3, fs)) ∈ Z) (i : Int32) : vx_Met l yX7_networkAt wsX7_networkAt (zR 7 1 6) (zPre E [.ref x, .int i] (zQ E Z C)) (va_Qr (fun (u : Nat × Nat) => i = nI u.1 ∧ es[u.1]? = some u.2) (fun u a t => a = u.2 ∧ zQ E Z C t.heap) (eA E)) (zX E (zQ E Z C) (fun nm => nm = zIOO ∧ ¬ ∃ k, k < es.length ∧ i = nI k)) 1 6 (eA E) := by
  refine zx_of (cc := cX7_networkAt) (maxL := 2) (ret := (some (.object "CloudPaths$Block"))) (by decide) rfl rfl (Nat.le_of_ble_eq_true rfl) ?_
  intro p e s m below meth c ls ht Cx hr hnm hw hl
  have hx := Cx.1.1
  have hb := Cx.1.2.1
  have hl : lv_has ls 2 [(0, .ref x), (1, .int i)] := hl
  refine lv_iload_n hx hb dX7_networkAt_0 rfl (lv_at hl 1 rfl) ?_
  refine lv_aload_n hx hb dX7_networkAt_1 rfl (lv_at hl 0 rfl) ?_
  refine z_get Cx hw (T := TX7) (N := 5) (ci := 10) (fun _ h => List.mem_cons_of_mem _ (List.mem_append_left _ (List.mem_append_left _ (List.mem_append_right _ (h))))) hx0 rfl 0 (by decide) (List.mem_of_getElem? (i := 1) rfl) rfl rfl dX7_networkAt_2 ?_
  refine z_goe hw.2 (z_runV Cx hw (c_al_size E l Z C q0 es hq) (cwV 0 Cx.1.2.2.2.2 gX7_networkAt_Jx4a65c_size_8abf5 rfl rfl rfl (by decide +kernel) ⟨Nat.le_of_ble_eq_true rfl, Nat.le_of_ble_eq_true rfl⟩) (z_recvL Cx hw hq) rfl hl.1 rfl (Nat.le_of_ble_eq_true rfl) dX7_networkAt_5 ⟨Nat.le_of_ble_eq_true rfl, Nat.le_of_ble_eq_true rfl⟩) (fun H locs hw => ?_)
  refine zx_gov (wf := fun _ => zQ E Z C) hw.2 (zx_runS Cx hw (c_X7_checkIndex E l hl0 Z C i (nI es.length)) (va_cwS 2 Cx.1.2.2.2.2 gX7_networkAt_X7_checkIndex rfl rfl rfl (by decide +kernel) ⟨Nat.le_of_ble_eq_true rfl, Nat.le_of_ble_eq_true rfl⟩)  rfl hl.1 rfl (Nat.le_of_ble_eq_true rfl) dX7_networkAt_8 ⟨Nat.le_of_ble_eq_true rfl, Nat.le_of_ble_eq_true rfl⟩) (z_out Cx ht (Nat.le_of_ble_eq_true rfl) (Nat.le_of_ble_eq_true rfl) (fun nm h => ⟨h.1, fun ⟨k, h1, h2⟩ => h.2 ⟨by rw [h2]; exact nI_pos (by omega), by rw [h2]; exact nI_lt h1 (by omega)⟩⟩) (fun _ h => h)) (fun _ H locs hp_8 hw => ?_)
  obtain ⟨k, hk31, rfl⟩ := nI_of hp_8.1
  have hk := (nI_ltI hk31 (by omega)).mp hp_8.2
  have ha := List.getElem?_eq_getElem hk
  generalize es[k] = y at ha
  obtain ⟨fs, hy⟩ := hel y (List.mem_of_getElem? ha)
  refine lv_aload_n hx hb dX7_networkAt_11 rfl (lv_at hl 0 rfl) ?_
  refine z_get Cx hw (T := TX7) (N := 5) (ci := 10) (fun _ h => List.mem_cons_of_mem _ (List.mem_append_left _ (List.mem_append_left _ (List.mem_append_right _ (h))))) hx0 rfl 0 (by decide) (List.mem_of_getElem? (i := 1) rfl) rfl rfl dX7_networkAt_12 ?_
  refine lv_iload_n hx hb dX7_networkAt_15 rfl (lv_at hl 1 rfl) ?_
  refine z_goer hw.2 (z_runV Cx hw (c_al_get E l Z C q0 es hq k y ha) (cwV 1 Cx.1.2.2.2.2 gX7_networkAt_Jx4a65c_get_915e3 rfl rfl rfl (by decide +kernel) ⟨Nat.le_of_ble_eq_true rfl, Nat.le_of_ble_eq_true rfl⟩) (z_recvL Cx hw hq) rfl hl.1 rfl (Nat.le_of_ble_eq_true rfl) dX7_networkAt_16 ⟨Nat.le_of_ble_eq_true rfl, Nat.le_of_ble_eq_true rfl⟩) (fun H locs hw => ?_)
  refine z_cast Cx hw (r := (RX0, TX0, 2)) hy rfl (List.mem_of_getElem? (i := 2) rfl) dX7_networkAt_19 ?_
  exact vx_ret (z_aret (pr := fun (u : Nat × Nat) a => a = u.2) (wf := fun _ => zQ E Z C) Cx hr (Or.inl ⟨_, rfl⟩) (Nat.le_of_ble_eq_true rfl) (Nat.le_of_ble_eq_true rfl) (k, y) hw ⟨rfl, ha⟩ rfl dX7_networkAt_22)

set_option maxRecDepth 100000 in
set_option maxHeartbeats 4000000 in
/-- subnetAt -/
theorem c_X7_subnetAt (E : zG) (l : Launch) (hl0 : l.stackTraces = false) (Z : va_W) (C : zLs) (x q0 q1 q2 q3 q4 : Nat) (es : List Nat) (hx0 : (x, Sum.inr (10, [.ref q0, .ref q1, .ref q2, .ref q3, .ref q4])) ∈ Z) (hq : C q1 = some es) (hn : es.length ≤ 1000) (hel : ∀ y ∈ es, ∃ fs : List Value, (y, Sum.inr (9, fs)) ∈ Z) (i : Int32) : vx_Met l yX7_subnetAt wsX7_subnetAt (zR 7 1 6) (zPre E [.ref x, .int i] (zQ E Z C)) (va_Qr (fun (u : Nat × Nat) => i = nI u.1 ∧ es[u.1]? = some u.2) (fun u a t => a = u.2 ∧ zQ E Z C t.heap) (eA E)) (zX E (zQ E Z C) (fun nm => nm = zIOO ∧ ¬ ∃ k, k < es.length ∧ i = nI k)) 1 6 (eA E) := by
  refine zx_of (cc := cX7_subnetAt) (maxL := 2) (ret := (some (.object "CloudPaths$Subnet"))) (by decide) rfl rfl (Nat.le_of_ble_eq_true rfl) ?_
  intro p e s m below meth c ls ht Cx hr hnm hw hl
  have hx := Cx.1.1
  have hb := Cx.1.2.1
  have hl : lv_has ls 2 [(0, .ref x), (1, .int i)] := hl
  refine lv_iload_n hx hb dX7_subnetAt_0 rfl (lv_at hl 1 rfl) ?_
  refine lv_aload_n hx hb dX7_subnetAt_1 rfl (lv_at hl 0 rfl) ?_
  refine z_get Cx hw (T := TX7) (N := 5) (ci := 10) (fun _ h => List.mem_cons_of_mem _ (List.mem_append_left _ (List.mem_append_left _ (List.mem_append_right _ (h))))) hx0 rfl 1 (by decide) (List.mem_of_getElem? (i := 1) rfl) rfl rfl dX7_subnetAt_2 ?_
  refine z_goe hw.2 (z_runV Cx hw (c_al_size E l Z C q1 es hq) (cwV 0 Cx.1.2.2.2.2 gX7_subnetAt_Jx4a65c_size_8abf5 rfl rfl rfl (by decide +kernel) ⟨Nat.le_of_ble_eq_true rfl, Nat.le_of_ble_eq_true rfl⟩) (z_recvL Cx hw hq) rfl hl.1 rfl (Nat.le_of_ble_eq_true rfl) dX7_subnetAt_5 ⟨Nat.le_of_ble_eq_true rfl, Nat.le_of_ble_eq_true rfl⟩) (fun H locs hw => ?_)
  refine zx_gov (wf := fun _ => zQ E Z C) hw.2 (zx_runS Cx hw (c_X7_checkIndex E l hl0 Z C i (nI es.length)) (va_cwS 2 Cx.1.2.2.2.2 gX7_subnetAt_X7_checkIndex rfl rfl rfl (by decide +kernel) ⟨Nat.le_of_ble_eq_true rfl, Nat.le_of_ble_eq_true rfl⟩)  rfl hl.1 rfl (Nat.le_of_ble_eq_true rfl) dX7_subnetAt_8 ⟨Nat.le_of_ble_eq_true rfl, Nat.le_of_ble_eq_true rfl⟩) (z_out Cx ht (Nat.le_of_ble_eq_true rfl) (Nat.le_of_ble_eq_true rfl) (fun nm h => ⟨h.1, fun ⟨k, h1, h2⟩ => h.2 ⟨by rw [h2]; exact nI_pos (by omega), by rw [h2]; exact nI_lt h1 (by omega)⟩⟩) (fun _ h => h)) (fun _ H locs hp_8 hw => ?_)
  obtain ⟨k, hk31, rfl⟩ := nI_of hp_8.1
  have hk := (nI_ltI hk31 (by omega)).mp hp_8.2
  have ha := List.getElem?_eq_getElem hk
  generalize es[k] = y at ha
  obtain ⟨fs, hy⟩ := hel y (List.mem_of_getElem? ha)
  refine lv_aload_n hx hb dX7_subnetAt_11 rfl (lv_at hl 0 rfl) ?_
  refine z_get Cx hw (T := TX7) (N := 5) (ci := 10) (fun _ h => List.mem_cons_of_mem _ (List.mem_append_left _ (List.mem_append_left _ (List.mem_append_right _ (h))))) hx0 rfl 1 (by decide) (List.mem_of_getElem? (i := 1) rfl) rfl rfl dX7_subnetAt_12 ?_
  refine lv_iload_n hx hb dX7_subnetAt_15 rfl (lv_at hl 1 rfl) ?_
  refine z_goer hw.2 (z_runV Cx hw (c_al_get E l Z C q1 es hq k y ha) (cwV 1 Cx.1.2.2.2.2 gX7_subnetAt_Jx4a65c_get_915e3 rfl rfl rfl (by decide +kernel) ⟨Nat.le_of_ble_eq_true rfl, Nat.le_of_ble_eq_true rfl⟩) (z_recvL Cx hw hq) rfl hl.1 rfl (Nat.le_of_ble_eq_true rfl) dX7_subnetAt_16 ⟨Nat.le_of_ble_eq_true rfl, Nat.le_of_ble_eq_true rfl⟩) (fun H locs hw => ?_)
  refine z_cast Cx hw (r := (RX6, TX6, 4)) hy rfl (List.mem_of_getElem? (i := 2) rfl) dX7_subnetAt_19 ?_
  exact vx_ret (z_aret (pr := fun (u : Nat × Nat) a => a = u.2) (wf := fun _ => zQ E Z C) Cx hr (Or.inl ⟨_, rfl⟩) (Nat.le_of_ble_eq_true rfl) (Nat.le_of_ble_eq_true rfl) (k, y) hw ⟨rfl, ha⟩ rfl dX7_subnetAt_22)

set_option maxRecDepth 100000 in
set_option maxHeartbeats 4000000 in
/-- hostAt -/
theorem c_X7_hostAt (E : zG) (l : Launch) (hl0 : l.stackTraces = false) (Z : va_W) (C : zLs) (x q0 q1 q2 q3 q4 : Nat) (es : List Nat) (hx0 : (x, Sum.inr (10, [.ref q0, .ref q1, .ref q2, .ref q3, .ref q4])) ∈ Z) (hq : C q2 = some es) (hn : es.length ≤ 1000) (hel : ∀ y ∈ es, ∃ fs : List Value, (y, Sum.inr (5, fs)) ∈ Z) (i : Int32) : vx_Met l yX7_hostAt wsX7_hostAt (zR 7 1 6) (zPre E [.ref x, .int i] (zQ E Z C)) (va_Qr (fun (u : Nat × Nat) => i = nI u.1 ∧ es[u.1]? = some u.2) (fun u a t => a = u.2 ∧ zQ E Z C t.heap) (eA E)) (zX E (zQ E Z C) (fun nm => nm = zIOO ∧ ¬ ∃ k, k < es.length ∧ i = nI k)) 1 6 (eA E) := by
  refine zx_of (cc := cX7_hostAt) (maxL := 2) (ret := (some (.object "CloudPaths$Host"))) (by decide) rfl rfl (Nat.le_of_ble_eq_true rfl) ?_
  intro p e s m below meth c ls ht Cx hr hnm hw hl
  have hx := Cx.1.1
  have hb := Cx.1.2.1
  have hl : lv_has ls 2 [(0, .ref x), (1, .int i)] := hl
  refine lv_iload_n hx hb dX7_hostAt_0 rfl (lv_at hl 1 rfl) ?_
  refine lv_aload_n hx hb dX7_hostAt_1 rfl (lv_at hl 0 rfl) ?_
  refine z_get Cx hw (T := TX7) (N := 5) (ci := 10) (fun _ h => List.mem_cons_of_mem _ (List.mem_append_left _ (List.mem_append_left _ (List.mem_append_right _ (h))))) hx0 rfl 2 (by decide) (List.mem_of_getElem? (i := 1) rfl) rfl rfl dX7_hostAt_2 ?_
  refine z_goe hw.2 (z_runV Cx hw (c_al_size E l Z C q2 es hq) (cwV 0 Cx.1.2.2.2.2 gX7_hostAt_Jx4a65c_size_8abf5 rfl rfl rfl (by decide +kernel) ⟨Nat.le_of_ble_eq_true rfl, Nat.le_of_ble_eq_true rfl⟩) (z_recvL Cx hw hq) rfl hl.1 rfl (Nat.le_of_ble_eq_true rfl) dX7_hostAt_5 ⟨Nat.le_of_ble_eq_true rfl, Nat.le_of_ble_eq_true rfl⟩) (fun H locs hw => ?_)
  refine zx_gov (wf := fun _ => zQ E Z C) hw.2 (zx_runS Cx hw (c_X7_checkIndex E l hl0 Z C i (nI es.length)) (va_cwS 2 Cx.1.2.2.2.2 gX7_hostAt_X7_checkIndex rfl rfl rfl (by decide +kernel) ⟨Nat.le_of_ble_eq_true rfl, Nat.le_of_ble_eq_true rfl⟩)  rfl hl.1 rfl (Nat.le_of_ble_eq_true rfl) dX7_hostAt_8 ⟨Nat.le_of_ble_eq_true rfl, Nat.le_of_ble_eq_true rfl⟩) (z_out Cx ht (Nat.le_of_ble_eq_true rfl) (Nat.le_of_ble_eq_true rfl) (fun nm h => ⟨h.1, fun ⟨k, h1, h2⟩ => h.2 ⟨by rw [h2]; exact nI_pos (by omega), by rw [h2]; exact nI_lt h1 (by omega)⟩⟩) (fun _ h => h)) (fun _ H locs hp_8 hw => ?_)
  obtain ⟨k, hk31, rfl⟩ := nI_of hp_8.1
  have hk := (nI_ltI hk31 (by omega)).mp hp_8.2
  have ha := List.getElem?_eq_getElem hk
  generalize es[k] = y at ha
  obtain ⟨fs, hy⟩ := hel y (List.mem_of_getElem? ha)
  refine lv_aload_n hx hb dX7_hostAt_11 rfl (lv_at hl 0 rfl) ?_
  refine z_get Cx hw (T := TX7) (N := 5) (ci := 10) (fun _ h => List.mem_cons_of_mem _ (List.mem_append_left _ (List.mem_append_left _ (List.mem_append_right _ (h))))) hx0 rfl 2 (by decide) (List.mem_of_getElem? (i := 1) rfl) rfl rfl dX7_hostAt_12 ?_
  refine lv_iload_n hx hb dX7_hostAt_15 rfl (lv_at hl 1 rfl) ?_
  refine z_goer hw.2 (z_runV Cx hw (c_al_get E l Z C q2 es hq k y ha) (cwV 1 Cx.1.2.2.2.2 gX7_hostAt_Jx4a65c_get_915e3 rfl rfl rfl (by decide +kernel) ⟨Nat.le_of_ble_eq_true rfl, Nat.le_of_ble_eq_true rfl⟩) (z_recvL Cx hw hq) rfl hl.1 rfl (Nat.le_of_ble_eq_true rfl) dX7_hostAt_16 ⟨Nat.le_of_ble_eq_true rfl, Nat.le_of_ble_eq_true rfl⟩) (fun H locs hw => ?_)
  refine z_cast Cx hw (r := (RX2, TX2, 3)) hy rfl (List.mem_of_getElem? (i := 2) rfl) dX7_hostAt_19 ?_
  exact vx_ret (z_aret (pr := fun (u : Nat × Nat) a => a = u.2) (wf := fun _ => zQ E Z C) Cx hr (Or.inl ⟨_, rfl⟩) (Nat.le_of_ble_eq_true rfl) (Nat.le_of_ble_eq_true rfl) (k, y) hw ⟨rfl, ha⟩ rfl dX7_hostAt_22)

set_option maxRecDepth 100000 in
set_option maxHeartbeats 4000000 in
/-- groupAt -/
theorem c_X7_groupAt (E : zG) (l : Launch) (hl0 : l.stackTraces = false) (Z : va_W) (C : zLs) (x q0 q1 q2 q3 q4 : Nat) (es : List Nat) (hx0 : (x, Sum.inr (10, [.ref q0, .ref q1, .ref q2, .ref q3, .ref q4])) ∈ Z) (hq : C q4 = some es) (hn : es.length ≤ 1000) (hel : ∀ y ∈ es, ∃ fs : List Value, (y, Sum.inr (4, fs)) ∈ Z) (i : Int32) : vx_Met l yX7_groupAt wsX7_groupAt (zR 7 1 6) (zPre E [.ref x, .int i] (zQ E Z C)) (va_Qr (fun (u : Nat × Nat) => i = nI u.1 ∧ es[u.1]? = some u.2) (fun u a t => a = u.2 ∧ zQ E Z C t.heap) (eA E)) (zX E (zQ E Z C) (fun nm => nm = zIOO ∧ ¬ ∃ k, k < es.length ∧ i = nI k)) 1 6 (eA E) := by
  refine zx_of (cc := cX7_groupAt) (maxL := 2) (ret := (some (.object "CloudPaths$Group"))) (by decide) rfl rfl (Nat.le_of_ble_eq_true rfl) ?_
  intro p e s m below meth c ls ht Cx hr hnm hw hl
  have hx := Cx.1.1
  have hb := Cx.1.2.1
  have hl : lv_has ls 2 [(0, .ref x), (1, .int i)] := hl
  refine lv_iload_n hx hb dX7_groupAt_0 rfl (lv_at hl 1 rfl) ?_
  refine lv_aload_n hx hb dX7_groupAt_1 rfl (lv_at hl 0 rfl) ?_
  refine z_get Cx hw (T := TX7) (N := 5) (ci := 10) (fun _ h => List.mem_cons_of_mem _ (List.mem_append_left _ (List.mem_append_left _ (List.mem_append_right _ (h))))) hx0 rfl 4 (by decide) (List.mem_of_getElem? (i := 1) rfl) rfl rfl dX7_groupAt_2 ?_
  refine z_goe hw.2 (z_runV Cx hw (c_al_size E l Z C q4 es hq) (cwV 0 Cx.1.2.2.2.2 gX7_groupAt_Jx4a65c_size_8abf5 rfl rfl rfl (by decide +kernel) ⟨Nat.le_of_ble_eq_true rfl, Nat.le_of_ble_eq_true rfl⟩) (z_recvL Cx hw hq) rfl hl.1 rfl (Nat.le_of_ble_eq_true rfl) dX7_groupAt_5 ⟨Nat.le_of_ble_eq_true rfl, Nat.le_of_ble_eq_true rfl⟩) (fun H locs hw => ?_)
  refine zx_gov (wf := fun _ => zQ E Z C) hw.2 (zx_runS Cx hw (c_X7_checkIndex E l hl0 Z C i (nI es.length)) (va_cwS 2 Cx.1.2.2.2.2 gX7_groupAt_X7_checkIndex rfl rfl rfl (by decide +kernel) ⟨Nat.le_of_ble_eq_true rfl, Nat.le_of_ble_eq_true rfl⟩)  rfl hl.1 rfl (Nat.le_of_ble_eq_true rfl) dX7_groupAt_8 ⟨Nat.le_of_ble_eq_true rfl, Nat.le_of_ble_eq_true rfl⟩) (z_out Cx ht (Nat.le_of_ble_eq_true rfl) (Nat.le_of_ble_eq_true rfl) (fun nm h => ⟨h.1, fun ⟨k, h1, h2⟩ => h.2 ⟨by rw [h2]; exact nI_pos (by omega), by rw [h2]; exact nI_lt h1 (by omega)⟩⟩) (fun _ h => h)) (fun _ H locs hp_8 hw => ?_)
  obtain ⟨k, hk31, rfl⟩ := nI_of hp_8.1
  have hk := (nI_ltI hk31 (by omega)).mp hp_8.2
  have ha := List.getElem?_eq_getElem hk
  generalize es[k] = y at ha
  obtain ⟨fs, hy⟩ := hel y (List.mem_of_getElem? ha)
  refine lv_aload_n hx hb dX7_groupAt_11 rfl (lv_at hl 0 rfl) ?_
  refine z_get Cx hw (T := TX7) (N := 5) (ci := 10) (fun _ h => List.mem_cons_of_mem _ (List.mem_append_left _ (List.mem_append_left _ (List.mem_append_right _ (h))))) hx0 rfl 4 (by decide) (List.mem_of_getElem? (i := 1) rfl) rfl rfl dX7_groupAt_12 ?_
  refine lv_iload_n hx hb dX7_groupAt_15 rfl (lv_at hl 1 rfl) ?_
  refine z_goer hw.2 (z_runV Cx hw (c_al_get E l Z C q4 es hq k y ha) (cwV 1 Cx.1.2.2.2.2 gX7_groupAt_Jx4a65c_get_915e3 rfl rfl rfl (by decide +kernel) ⟨Nat.le_of_ble_eq_true rfl, Nat.le_of_ble_eq_true rfl⟩) (z_recvL Cx hw hq) rfl hl.1 rfl (Nat.le_of_ble_eq_true rfl) dX7_groupAt_16 ⟨Nat.le_of_ble_eq_true rfl, Nat.le_of_ble_eq_true rfl⟩) (fun H locs hw => ?_)
  refine z_cast Cx hw (r := (RX1, TX1, 1)) hy rfl (List.mem_of_getElem? (i := 2) rfl) dX7_groupAt_19 ?_
  exact vx_ret (z_aret (pr := fun (u : Nat × Nat) a => a = u.2) (wf := fun _ => zQ E Z C) Cx hr (Or.inl ⟨_, rfl⟩) (Nat.le_of_ble_eq_true rfl) (Nat.le_of_ble_eq_true rfl) (k, y) hw ⟨rfl, ha⟩ rfl dX7_groupAt_22)


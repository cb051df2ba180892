/-- the block (b, k) has the address x, as the class asks it -/
def zhs (b k x : Int32) : Bool := decide (x >>> (k &&& 31) = b >>> (k &&& 31))
abbrev zb (b : Bool) : Int32 := if b = true then 1 else 0
theorem zb_n (b : Bool) : narrow .boolean (.int (zb b)) = .int (zb b) := by cases b <;> rfl
set_option maxRecDepth 100000 in
set_option maxHeartbeats 4000000 in
/-- Block.has -/
theorem c_X0_has (E : zG) (l : Launch) (Z : va_W) (C : zLs) (a : Nat) (b k x : Int32) (h0 : (a, Sum.inr (3, [.int b, .int k])) ∈ Z) : Met l yX0_has wsX0_has (zR 0 0 0) (zPre E [.ref a, .int x] (zQ E Z C)) (zRi E (zQ E Z C) (zb (zhs b k x))) 0 0 (eA E) := by
  refine z_of (cc := cX0_has) (maxL := 2) (ret := (some .boolean)) (by decide) rfl rfl (Nat.le_of_ble_eq_true rfl) ?_
  intro p e s m below meth c ls Cx hr hnm hw hl
  have hx := Cx.1.1
  have hb := Cx.1.2.1
  have hl : lv_has ls 2 [(0, .ref a), (1, .int x)] := hl
  refine lv_iload_n hx hb dX0_has_0 rfl (lv_at hl 1 rfl) ?_
  refine lv_aload_n hx hb dX0_has_1 rfl (lv_at hl 0 rfl) ?_
  refine z_get Cx hw (T := TX0) (N := 2) (ci := 3) (fun _ h => List.mem_cons_of_mem _ (List.mem_append_right _ (h))) (by assumption) rfl 1 (by decide) (List.mem_of_getElem? (i := 1) rfl) rfl rfl dX0_has_2 ?_
  refine lv_ishr hx hb dX0_has_5 ?_
  refine lv_aload_n hx hb dX0_has_6 rfl (lv_at hl 0 rfl) ?_
  refine z_get Cx hw (T := TX0) (N := 2) (ci := 3) (fun _ h => List.mem_cons_of_mem _ (List.mem_append_right _ (h))) (by assumption) rfl 0 (by decide) (List.mem_of_getElem? (i := 2) rfl) rfl rfl dX0_has_7 ?_
  refine lv_aload_n hx hb dX0_has_10 rfl (lv_at hl 0 rfl) ?_
  refine z_get Cx hw (T := TX0) (N := 2) (ci := 3) (fun _ h => List.mem_cons_of_mem _ (List.mem_append_right _ (h))) (by assumption) rfl 1 (by decide) (List.mem_of_getElem? (i := 1) rfl) rfl rfl dX0_has_11 ?_
  refine lv_ishr hx hb dX0_has_14 ?_
  refine lv_icmp_ne (tgt := 22) hx hb dX0_has_15 (by decide) (fun c_15 => ?_) (fun c_15 => ?_)
  · skip
    refine lv_iconst (v := 0) hx hb dX0_has_22 (by decide) ?_
    exact (z_ie Cx hr rfl (by decide) (by decide) hw dX0_has_23 (by simp_all [zhs]))
  · skip
    refine lv_iconst (v := 1) hx hb dX0_has_18 (by decide) ?_
    refine lv_goto (tgt := 23) hx hb dX0_has_19 (by decide) ?_
    exact (z_ie Cx hr rfl (by decide) (by decide) hw dX0_has_23 (by simp_all [zhs]))

set_option maxRecDepth 100000 in
set_option maxHeartbeats 4000000 in
/-- Block.isSame -/
theorem c_X0_isSame (E : zG) (l : Launch) (Z : va_W) (C : zLs) (a : Nat) (b k : Int32) (a2 : Nat) (b2 k2 : Int32) (h0 : (a, Sum.inr (3, [.int b, .int k])) ∈ Z) (h2 : (a2, Sum.inr (3, [.int b2, .int k2])) ∈ Z) : Met l yX0_isSame wsX0_isSame (zR 0 0 0) (zPre E [.ref a, .ref a2] (zQ E Z C)) (zRi E (zQ E Z C) (zb (decide (b = b2 ∧ k = k2)))) 0 0 (eA E) := by
  refine z_of (cc := cX0_isSame) (maxL := 2) (ret := (some .boolean)) (by decide) rfl rfl (Nat.le_of_ble_eq_true rfl) ?_
  intro p e s m below meth c ls Cx hr hnm hw hl
  have hx := Cx.1.1
  have hb := Cx.1.2.1
  have hl : lv_has ls 2 [(0, .ref a), (1, .ref a2)] := hl
  refine lv_aload_n hx hb dX0_isSame_0 rfl (lv_at hl 0 rfl) ?_
  refine z_get Cx hw (T := TX0) (N := 2) (ci := 3) (fun _ h => List.mem_cons_of_mem _ (List.mem_append_right _ (h))) h0 rfl 0 (by decide) (List.mem_of_getElem? (i := 1) rfl) rfl rfl dX0_isSame_1 ?_
  refine lv_aload_n hx hb dX0_isSame_4 rfl (lv_at hl 1 rfl) ?_
  refine z_get Cx hw (T := TX0) (N := 2) (ci := 3) (fun _ h => List.mem_cons_of_mem _ (List.mem_append_right _ (h))) h2 rfl 0 (by decide) (List.mem_of_getElem? (i := 1) rfl) rfl rfl dX0_isSame_5 ?_
  refine lv_icmp_ne (tgt := 26) hx hb dX0_isSame_8 (by decide) (fun c_8 => ?_) (fun c_8 => ?_)
  · skip
    refine lv_iconst (v := 0) hx hb dX0_isSame_26 (by decide) ?_
    exact (z_ie Cx hr rfl (by decide) (by decide) hw dX0_isSame_27 (by simp_all))
  · skip
    refine lv_aload_n hx hb dX0_isSame_11 rfl (lv_at hl 0 rfl) ?_
    refine z_get Cx hw (T := TX0) (N := 2) (ci := 3) (fun _ h => List.mem_cons_of_mem _ (List.mem_append_right _ (h))) h0 rfl 1 (by decide) (List.mem_of_getElem? (i := 2) rfl) rfl rfl dX0_isSame_12 ?_
    refine lv_aload_n hx hb dX0_isSame_15 rfl (lv_at hl 1 rfl) ?_
    refine z_get Cx hw (T := TX0) (N := 2) (ci := 3) (fun _ h => List.mem_cons_of_mem _ (List.mem_append_right _ (h))) h2 rfl 1 (by decide) (List.mem_of_getElem? (i := 2) rfl) rfl rfl dX0_isSame_16 ?_
    refine lv_icmp_ne (tgt := 26) hx hb dX0_isSame_19 (by decide) (fun c_19 => ?_) (fun c_19 => ?_)
    · skip
      refine lv_iconst (v := 0) hx hb dX0_isSame_26 (by decide) ?_
      exact (z_ie Cx hr rfl (by decide) (by decide) hw dX0_isSame_27 (by simp_all))
    · skip
      refine lv_iconst (v := 1) hx hb dX0_isSame_22 (by decide) ?_
      refine lv_goto (tgt := 27) hx hb dX0_isSame_23 (by decide) ?_
      exact (z_ie Cx hr rfl (by decide) (by decide) hw dX0_isSame_27 (by simp_all))

set_option maxRecDepth 100000 in
set_option maxHeartbeats 4000000 in
/-- Block.end -/
theorem c_X0_end (E : zG) (l : Launch) (Z : va_W) (C : zLs) (a : Nat) (b k : Int32) (h0 : (a, Sum.inr (3, [.int b, .int k])) ∈ Z) : Met l yX0_end wsX0_end (zR 0 0 0) (zPre E [.ref a] (zQ E Z C)) (zRi E (zQ E Z C) (b + (1 : Int32) <<< (k &&& 31))) 0 0 (eA E) := by
  refine z_of (cc := cX0_end) (maxL := 1) (ret := (some .int)) (by decide) rfl rfl (Nat.le_of_ble_eq_true rfl) ?_
  intro p e s m below meth c ls Cx hr hnm hw hl
  have hx := Cx.1.1
  have hb := Cx.1.2.1
  have hl : lv_has ls 1 [(0, .ref a)] := hl
  refine lv_aload_n hx hb dX0_end_0 rfl (lv_at hl 0 rfl) ?_
  refine z_get Cx hw (T := TX0) (N := 2) (ci := 3) (fun _ h => List.mem_cons_of_mem _ (List.mem_append_right _ (h))) (by assumption) rfl 0 (by decide) (List.mem_of_getElem? (i := 1) rfl) rfl rfl dX0_end_1 ?_
  refine lv_iconst (v := 1) hx hb dX0_end_4 (by decide) ?_
  refine lv_aload_n hx hb dX0_end_5 rfl (lv_at hl 0 rfl) ?_
  refine z_get Cx hw (T := TX0) (N := 2) (ci := 3) (fun _ h => List.mem_cons_of_mem _ (List.mem_append_right _ (h))) (by assumption) rfl 1 (by decide) (List.mem_of_getElem? (i := 2) rfl) rfl rfl dX0_end_6 ?_
  refine lv_ishl hx hb dX0_end_9 ?_
  refine lv_iadd hx hb dX0_end_10 ?_
  exact (z_ie Cx hr rfl (by decide) (by decide) hw dX0_end_11 rfl)

set_option maxRecDepth 100000 in
set_option maxHeartbeats 4000000 in
/-- Block.isWithin -/
theorem c_X0_isWithin (E : zG) (l : Launch) (Z : va_W) (C : zLs) (a : Nat) (b k : Int32) (a2 : Nat) (b2 k2 : Int32) (h0 : (a, Sum.inr (3, [.int b, .int k])) ∈ Z) (h2 : (a2, Sum.inr (3, [.int b2, .int k2])) ∈ Z) : Met l yX0_isWithin wsX0_isWithin (zR 1 0 0) (zPre E [.ref a, .ref a2] (zQ E Z C)) (zRi E (zQ E Z C) (zb (decide (k ≤ k2) && zhs b2 k2 b))) 0 0 (eA E) := by
  refine z_of (cc := cX0_isWithin) (maxL := 2) (ret := (some .boolean)) (by decide) rfl rfl (Nat.le_of_ble_eq_true rfl) ?_
  intro p e s m below meth c ls Cx hr hnm hw hl
  have hx := Cx.1.1
  have hb := Cx.1.2.1
  have hl : lv_has ls 2 [(0, .ref a), (1, .ref a2)] := hl
  refine lv_aload_n hx hb dX0_isWithin_0 rfl (lv_at hl 0 rfl) ?_
  refine z_get Cx hw (T := TX0) (N := 2) (ci := 3) (fun _ h => List.mem_cons_of_mem _ (List.mem_append_right _ (h))) h0 rfl 1 (by decide) (List.mem_of_getElem? (i := 1) rfl) rfl rfl dX0_isWithin_1 ?_
  refine lv_aload_n hx hb dX0_isWithin_4 rfl (lv_at hl 1 rfl) ?_
  refine z_get Cx hw (T := TX0) (N := 2) (ci := 3) (fun _ h => List.mem_cons_of_mem _ (List.mem_append_right _ (h))) h2 rfl 1 (by decide) (List.mem_of_getElem? (i := 1) rfl) rfl rfl dX0_isWithin_5 ?_
  refine lv_icmp_gt (tgt := 26) hx hb dX0_isWithin_8 (by decide) (fun c_8 => ?_) (fun c_8 => ?_)
  · skip
    refine lv_iconst (v := 0) hx hb dX0_isWithin_26 (by decide) ?_
    exact (z_ie Cx hr rfl (by decide) (by decide) hw dX0_isWithin_27 (by first | (rw [decide_eq_false (Int32.not_le.mpr c_8)]; rfl) | simp_all))
  · skip
    refine lv_aload_n hx hb dX0_isWithin_11 rfl (lv_at hl 1 rfl) ?_
    refine lv_aload_n hx hb dX0_isWithin_12 rfl (lv_at hl 0 rfl) ?_
    refine z_get Cx hw (T := TX0) (N := 2) (ci := 3) (fun _ h => List.mem_cons_of_mem _ (List.mem_append_right _ (h))) h0 rfl 0 (by decide) (List.mem_of_getElem? (i := 2) rfl) rfl rfl dX0_isWithin_13 ?_
    refine z_goe hw.2 (z_runV Cx hw (c_X0_has E l Z C a2 b2 k2 b h2) (cwV 1 Cx.1.2.2.2.2 gX0_isWithin_X0_has rfl rfl rfl (by decide +kernel) ⟨Nat.le_of_ble_eq_true rfl, Nat.le_of_ble_eq_true rfl⟩) (z_recv Cx hw (r := (RX0, TX0, 2)) h2 rfl) rfl hl.1 rfl (Nat.le_of_ble_eq_true rfl) dX0_isWithin_16 ⟨Nat.le_of_ble_eq_true rfl, Nat.le_of_ble_eq_true rfl⟩) (fun H locs hw => ?_)
    refine lv_if_eq (tgt := 26) hx hb dX0_isWithin_19 (by decide) (fun c_19 => ?_) (fun c_19 => ?_)
    · skip
      refine lv_iconst (v := 0) hx hb dX0_isWithin_26 (by decide) ?_
      exact (z_ie Cx hr rfl (by decide) (by decide) hw dX0_isWithin_27 (by first | (rw [decide_eq_false (Int32.not_le.mpr c_8)]; rfl) | simp_all))
    · skip
      refine lv_iconst (v := 1) hx hb dX0_isWithin_22 (by decide) ?_
      refine lv_goto (tgt := 27) hx hb dX0_isWithin_23 (by decide) ?_
      exact (z_ie Cx hr rfl (by decide) (by decide) hw dX0_isWithin_27 (by first | (rw [decide_eq_false (Int32.not_le.mpr c_8)]; rfl) | simp_all))

set_option maxRecDepth 100000 in
set_option maxHeartbeats 4000000 in
/-- Block.overlaps -/
theorem c_X0_overlaps (E : zG) (l : Launch) (Z : va_W) (C : zLs) (a : Nat) (b k : Int32) (a2 : Nat) (b2 k2 : Int32) (h0 : (a, Sum.inr (3, [.int b, .int k])) ∈ Z) (h2 : (a2, Sum.inr (3, [.int b2, .int k2])) ∈ Z) : Met l yX0_overlaps wsX0_overlaps (zR 1 0 0) (zPre E [.ref a, .ref a2] (zQ E Z C)) (zRi E (zQ E Z C) (zb (zhs b k b2 || zhs b2 k2 b))) 0 0 (eA E) := by
  refine z_of (cc := cX0_overlaps) (maxL := 2) (ret := (some .boolean)) (by decide) rfl rfl (Nat.le_of_ble_eq_true rfl) ?_
  intro p e s m below meth c ls Cx hr hnm hw hl
  have hx := Cx.1.1
  have hb := Cx.1.2.1
  have hl : lv_has ls 2 [(0, .ref a), (1, .ref a2)] := hl
  refine lv_aload_n hx hb dX0_overlaps_0 rfl (lv_at hl 0 rfl) ?_
  refine lv_aload_n hx hb dX0_overlaps_1 rfl (lv_at hl 1 rfl) ?_
  refine z_get Cx hw (T := TX0) (N := 2) (ci := 3) (fun _ h => List.mem_cons_of_mem _ (List.mem_append_right _ (h))) h2 rfl 0 (by decide) (List.mem_of_getElem? (i := 1) rfl) rfl rfl dX0_overlaps_2 ?_
  refine z_goe hw.2 (z_runV Cx hw (c_X0_has E l Z C a b k b2 h0) (cwV 1 Cx.1.2.2.2.2 gX0_overlaps_X0_has rfl rfl rfl (by decide +kernel) ⟨Nat.le_of_ble_eq_true rfl, Nat.le_of_ble_eq_true rfl⟩) (z_recv Cx hw (r := (RX0, TX0, 2)) h0 rfl) rfl hl.1 rfl (Nat.le_of_ble_eq_true rfl) dX0_overlaps_5 ⟨Nat.le_of_ble_eq_true rfl, Nat.le_of_ble_eq_true rfl⟩) (fun H locs hw => ?_)
  refine lv_if_ne (tgt := 22) hx hb dX0_overlaps_8 (by decide) (fun c_8 => ?_) (fun c_8 => ?_)
  · skip
    refine lv_iconst (v := 1) hx hb dX0_overlaps_22 (by decide) ?_
    refine lv_goto (tgt := 27) hx hb dX0_overlaps_23 (by decide) ?_
    exact (z_ie Cx hr rfl (by decide) (by decide) hw dX0_overlaps_27 (by simp_all))
  · skip
    refine lv_aload_n hx hb dX0_overlaps_11 rfl (lv_at hl 1 rfl) ?_
    refine lv_aload_n hx hb dX0_overlaps_12 rfl (lv_at hl 0 rfl) ?_
    refine z_get Cx hw (T := TX0) (N := 2) (ci := 3) (fun _ h => List.mem_cons_of_mem _ (List.mem_append_right _ (h))) h0 rfl 0 (by decide) (List.mem_of_getElem? (i := 1) rfl) rfl rfl dX0_overlaps_13 ?_
    refine z_goe hw.2 (z_runV Cx hw (c_X0_has E l Z C a2 b2 k2 b h2) (cwV 1 Cx.1.2.2.2.2 gX0_overlaps_X0_has rfl rfl rfl (by decide +kernel) ⟨Nat.le_of_ble_eq_true rfl, Nat.le_of_ble_eq_true rfl⟩) (z_recv Cx hw (r := (RX0, TX0, 2)) h2 rfl) rfl hl.1 rfl (Nat.le_of_ble_eq_true rfl) dX0_overlaps_16 ⟨Nat.le_of_ble_eq_true rfl, Nat.le_of_ble_eq_true rfl⟩) (fun H locs hw => ?_)
    refine lv_if_eq (tgt := 26) hx hb dX0_overlaps_19 (by decide) (fun c_19 => ?_) (fun c_19 => ?_)
    · skip
      refine lv_iconst (v := 0) hx hb dX0_overlaps_26 (by decide) ?_
      exact (z_ie Cx hr rfl (by decide) (by decide) hw dX0_overlaps_27 (by simp_all))
    · skip
      refine lv_iconst (v := 1) hx hb dX0_overlaps_22 (by decide) ?_
      refine lv_goto (tgt := 27) hx hb dX0_overlaps_23 (by decide) ?_
      exact (z_ie Cx hr rfl (by decide) (by decide) hw dX0_overlaps_27 (by simp_all))


/-! the reference: its small functions -/
abbrev zfir (x : Int32) : Int32 := x / 16
abbrev zman (x : Int32) : Int32 := (1 : Int32) <<< ((x - x / 16 * 16) &&& 31)
def zmhas (x a : Int32) : Bool := decide (¬ a < zfir x ∧ a < zfir x + zman x)
def zmcom (x y : Int32) : Bool := zmhas x (zfir y) || zmhas y (zfir x)
abbrev zmblk (b k : Int32) : Prop := ¬ k < 0 ∧ ¬ 10 < k ∧ ¬ b < 0 ∧ ¬ 1024 - (1 : Int32) <<< (k &&& 31) < b ∧ b - b / (1 : Int32) <<< (k &&& 31) * (1 : Int32) <<< (k &&& 31) = 0
abbrev zmprt (f : Int32) : Prop := ¬ f < 0 ∧ f < 16
theorem zsh_ne {k : Int32} (h0 : ¬ k < 0) (h1 : ¬ 10 < k) : (1 : Int32) <<< (k &&& 31) ≠ 0 := by
  obtain ⟨j, hj, rfl⟩ := nI_of2 (M := 10) (n := 10) rfl h0 (Int32.not_lt.mp h1)
  rcases (show j = 0 ∨ j = 1 ∨ j = 2 ∨ j = 3 ∨ j = 4 ∨ j = 5 ∨ j = 6 ∨ j = 7 ∨ j = 8 ∨ j = 9 ∨ j = 10 by omega) with rfl | rfl | rfl | rfl | rfl | rfl | rfl | rfl | rfl | rfl | rfl <;> decide
set_option maxRecDepth 100000 in
set_option maxHeartbeats 4000000 in
/-- block -/
theorem c_X8_block (E : zG) (l : Launch) (w : Heap → Prop) (b k : Int32) : Met l yX8_block wsX8_block (zR 0 0 0) (zPre E [.int b, .int k] w) (zRi E w (16 * b + k)) 0 0 (eA E) := by
  refine z_of (cc := cX8_block) (maxL := 2) (ret := (some .int)) (by decide) rfl rfl (Nat.le_of_ble_eq_true rfl) ?_
  intro p e s m below meth c ls Cx hr hnm hw hl
  have hx := Cx.1.1
  have hb := Cx.1.2.1
  have hl : lv_has ls 2 [(0, .int b), (1, .int k)] := hl
  refine lv_bipush (v := 16) hx hb dX8_block_0 (by decide) ?_
  refine lv_iload_n hx hb dX8_block_2 rfl (lv_at hl 0 rfl) ?_
  refine lv_imul hx hb dX8_block_3 ?_
  refine lv_iload_n hx hb dX8_block_4 rfl (lv_at hl 1 rfl) ?_
  refine lv_iadd hx hb dX8_block_5 ?_
  exact (z_ie Cx hr rfl (Nat.le_of_ble_eq_true rfl) (Nat.le_of_ble_eq_true rfl) hw dX8_block_6 rfl)

set_option maxRecDepth 100000 in
set_option maxHeartbeats 4000000 in
/-- first -/
theorem c_X8_first (E : zG) (l : Launch) (w : Heap → Prop) (x : Int32) : Met l yX8_first wsX8_first (zR 0 0 0) (zPre E [.int x] w) (zRi E w (zfir x)) 0 0 (eA E) := by
  refine z_of (cc := cX8_first) (maxL := 1) (ret := (some .int)) (by decide) rfl rfl (Nat.le_of_ble_eq_true rfl) ?_
  intro p e s m below meth c ls Cx hr hnm hw hl
  have hx := Cx.1.1
  have hb := Cx.1.2.1
  have hl : lv_has ls 1 [(0, .int x)] := hl
  refine lv_iload_n hx hb dX8_first_0 rfl (lv_at hl 0 rfl) ?_
  refine lv_bipush (v := 16) hx hb dX8_first_1 (by decide) ?_
  refine lv_idiv hx hb dX8_first_3 (by decide) ?_
  exact (z_ie Cx hr rfl (Nat.le_of_ble_eq_true rfl) (Nat.le_of_ble_eq_true rfl) hw dX8_first_4 rfl)

set_option maxRecDepth 100000 in
set_option maxHeartbeats 4000000 in
/-- many -/
theorem c_X8_many (E : zG) (l : Launch) (w : Heap → Prop) (x : Int32) : Met l yX8_many wsX8_many (zR 0 0 0) (zPre E [.int x] w) (zRi E w (zman x)) 0 0 (eA E) := by
  refine z_of (cc := cX8_many) (maxL := 1) (ret := (some .int)) (by decide) rfl rfl (Nat.le_of_ble_eq_true rfl) ?_
  intro p e s m below meth c ls Cx hr hnm hw hl
  have hx := Cx.1.1
  have hb := Cx.1.2.1
  have hl : lv_has ls 1 [(0, .int x)] := hl
  refine lv_iconst (v := 1) hx hb dX8_many_0 (by decide) ?_
  refine lv_iload_n hx hb dX8_many_1 rfl (lv_at hl 0 rfl) ?_
  refine lv_bipush (v := 16) hx hb dX8_many_2 (by decide) ?_
  refine lv_irem hx hb dX8_many_4 (by decide) ?_
  refine lv_ishl hx hb dX8_many_5 ?_
  exact (z_ie Cx hr rfl (Nat.le_of_ble_eq_true rfl) (Nat.le_of_ble_eq_true rfl) hw dX8_many_6 rfl)

set_option maxRecDepth 100000 in
set_option maxHeartbeats 4000000 in
/-- portSet -/
theorem c_X8_portSet (E : zG) (l : Launch) (w : Heap → Prop) (f la : Int32) : Met l yX8_portSet wsX8_portSet (zR 0 0 0) (zPre E [.int f, .int la] w) (zRi E w ((1 : Int32) <<< ((la + 1) &&& 31) - (1 : Int32) <<< (f &&& 31))) 0 0 (eA E) := by
  refine z_of (cc := cX8_portSet) (maxL := 2) (ret := (some .int)) (by decide) rfl rfl (Nat.le_of_ble_eq_true rfl) ?_
  intro p e s m below meth c ls Cx hr hnm hw hl
  have hx := Cx.1.1
  have hb := Cx.1.2.1
  have hl : lv_has ls 2 [(0, .int f), (1, .int la)] := hl
  refine lv_iconst (v := 1) hx hb dX8_portSet_0 (by decide) ?_
  refine lv_iload_n hx hb dX8_portSet_1 rfl (lv_at hl 1 rfl) ?_
  refine lv_iconst (v := 1) hx hb dX8_portSet_2 (by decide) ?_
  refine lv_iadd hx hb dX8_portSet_3 ?_
  refine lv_ishl hx hb dX8_portSet_4 ?_
  refine lv_iconst (v := 1) hx hb dX8_portSet_5 (by decide) ?_
  refine lv_iload_n hx hb dX8_portSet_6 rfl (lv_at hl 0 rfl) ?_
  refine lv_ishl hx hb dX8_portSet_7 ?_
  refine lv_isub hx hb dX8_portSet_8 ?_
  exact (z_ie Cx hr rfl (Nat.le_of_ble_eq_true rfl) (Nat.le_of_ble_eq_true rfl) hw dX8_portSet_9 rfl)

set_option maxRecDepth 100000 in
set_option maxHeartbeats 4000000 in
/-- has -/
theorem c_X8_has (E : zG) (l : Launch) (w : Heap → Prop) (x a : Int32) : Met l yX8_has wsX8_has (zR 1 0 0) (zPre E [.int x, .int a] w) (zRi E w (zb (zmhas x a))) 0 0 (eA E) := by
  refine z_of (cc := cX8_has) (maxL := 2) (ret := (some .boolean)) (by decide) rfl rfl (Nat.le_of_ble_eq_true rfl) ?_
  intro p e s m below meth c ls Cx hr hnm hw hl
  have hx := Cx.1.1
  have hb := Cx.1.2.1
  have hl : lv_has ls 2 [(0, .int x), (1, .int a)] := hl
  refine lv_iload_n hx hb dX8_has_0 rfl (lv_at hl 1 rfl) ?_
  refine lv_iload_n hx hb dX8_has_1 rfl (lv_at hl 0 rfl) ?_
  refine z_goe hw.2 (z_runS Cx hw (c_X8_first E l w x) (va_cwS 1 Cx.1.2.2.2.2 gX8_has_X8_first rfl rfl rfl (by decide +kernel) ⟨Nat.le_of_ble_eq_true rfl, Nat.le_of_ble_eq_true rfl⟩)  rfl hl.1 rfl (Nat.le_of_ble_eq_true rfl) dX8_has_2 ⟨Nat.le_of_ble_eq_true rfl, Nat.le_of_ble_eq_true rfl⟩) (fun H locs hw => ?_)
  refine lv_icmp_lt (tgt := 25) hx hb dX8_has_5 (by decide) (fun c_5 => ?_) (fun c_5 => ?_)
  · skip
    refine lv_iconst (v := 0) hx hb dX8_has_25 (by decide) ?_
    exact (z_ie Cx hr rfl (Nat.le_of_ble_eq_true rfl) (Nat.le_of_ble_eq_true rfl) hw dX8_has_26 (by simp_all [zmhas]))
  · skip
    refine lv_iload_n hx hb dX8_has_8 rfl (lv_at hl 1 rfl) ?_
    refine lv_iload_n hx hb dX8_has_9 rfl (lv_at hl 0 rfl) ?_
    refine z_goe hw.2 (z_runS Cx hw (c_X8_first E l w x) (va_cwS 1 Cx.1.2.2.2.2 gX8_has_X8_first rfl rfl rfl (by decide +kernel) ⟨Nat.le_of_ble_eq_true rfl, Nat.le_of_ble_eq_true rfl⟩)  rfl hl.1 rfl (Nat.le_of_ble_eq_true rfl) dX8_has_10 ⟨Nat.le_of_ble_eq_true rfl, Nat.le_of_ble_eq_true rfl⟩) (fun H locs hw => ?_)
    refine lv_iload_n hx hb dX8_has_13 rfl (lv_at hl 0 rfl) ?_
    refine z_goe hw.2 (z_runS Cx hw (c_X8_many E l w x) (va_cwS 1 Cx.1.2.2.2.2 gX8_has_X8_many rfl rfl rfl (by decide +kernel) ⟨Nat.le_of_ble_eq_true rfl, Nat.le_of_ble_eq_true rfl⟩)  rfl hl.1 rfl (Nat.le_of_ble_eq_true rfl) dX8_has_14 ⟨Nat.le_of_ble_eq_true rfl, Nat.le_of_ble_eq_true rfl⟩) (fun H locs hw => ?_)
    refine lv_iadd hx hb dX8_has_17 ?_
    refine lv_icmp_ge (tgt := 25) hx hb dX8_has_18 (by decide) (fun c_18 => ?_) (fun c_18 => ?_)
    · skip
      refine lv_iconst (v := 0) hx hb dX8_has_25 (by decide) ?_
      exact (z_ie Cx hr rfl (Nat.le_of_ble_eq_true rfl) (Nat.le_of_ble_eq_true rfl) hw dX8_has_26 (by simp_all [zmhas]))
    · skip
      refine lv_iconst (v := 1) hx hb dX8_has_21 (by decide) ?_
      refine lv_goto (tgt := 26) hx hb dX8_has_22 (by decide) ?_
      exact (z_ie Cx hr rfl (Nat.le_of_ble_eq_true rfl) (Nat.le_of_ble_eq_true rfl) hw dX8_has_26 (by simp_all [zmhas]))

set_option maxRecDepth 100000 in
set_option maxHeartbeats 4000000 in
/-- haveCommon -/
theorem c_X8_haveCommon (E : zG) (l : Launch) (w : Heap → Prop) (x y : Int32) : Met l yX8_haveCommon wsX8_haveCommon (zR 2 0 0) (zPre E [.int x, .int y] w) (zRi E w (zb (zmcom x y))) 0 0 (eA E) := by
  refine z_of (cc := cX8_haveCommon) (maxL := 2) (ret := (some .boolean)) (by decide) rfl rfl (Nat.le_of_ble_eq_true rfl) ?_
  intro p e s m below meth c ls Cx hr hnm hw hl
  have hx := Cx.1.1
  have hb := Cx.1.2.1
  have hl : lv_has ls 2 [(0, .int x), (1, .int y)] := hl
  refine lv_iload_n hx hb dX8_haveCommon_0 rfl (lv_at hl 0 rfl) ?_
  refine lv_iload_n hx hb dX8_haveCommon_1 rfl (lv_at hl 1 rfl) ?_
  refine z_goe hw.2 (z_runS Cx hw (c_X8_first E l w y) (va_cwS 1 Cx.1.2.2.2.2 gX8_haveCommon_X8_first rfl rfl rfl (by decide +kernel) ⟨Nat.le_of_ble_eq_true rfl, Nat.le_of_ble_eq_true rfl⟩)  rfl hl.1 rfl (Nat.le_of_ble_eq_true rfl) dX8_haveCommon_2 ⟨Nat.le_of_ble_eq_true rfl, Nat.le_of_ble_eq_true rfl⟩) (fun H locs hw => ?_)
  refine z_goe hw.2 (z_runS Cx hw (c_X8_has E l w x (zfir y)) (va_cwS 2 Cx.1.2.2.2.2 gX8_haveCommon_X8_has rfl rfl rfl (by decide +kernel) ⟨Nat.le_of_ble_eq_true rfl, Nat.le_of_ble_eq_true rfl⟩)  rfl hl.1 rfl (Nat.le_of_ble_eq_true rfl) dX8_haveCommon_5 ⟨Nat.le_of_ble_eq_true rfl, Nat.le_of_ble_eq_true rfl⟩) (fun H locs hw => ?_)
  refine lv_if_ne (tgt := 22) hx hb dX8_haveCommon_8 (by decide) (fun c_8 => ?_) (fun c_8 => ?_)
  · skip
    refine lv_iconst (v := 1) hx hb dX8_haveCommon_22 (by decide) ?_
    refine lv_goto (tgt := 27) hx hb dX8_haveCommon_23 (by decide) ?_
    exact (z_ie Cx hr rfl (Nat.le_of_ble_eq_true rfl) (Nat.le_of_ble_eq_true rfl) hw dX8_haveCommon_27 (by simp_all [zmcom]))
  · skip
    refine lv_iload_n hx hb dX8_haveCommon_11 rfl (lv_at hl 1 rfl) ?_
    refine lv_iload_n hx hb dX8_haveCommon_12 rfl (lv_at hl 0 rfl) ?_
    refine z_goe hw.2 (z_runS Cx hw (c_X8_first E l w x) (va_cwS 1 Cx.1.2.2.2.2 gX8_haveCommon_X8_first rfl rfl rfl (by decide +kernel) ⟨Nat.le_of_ble_eq_true rfl, Nat.le_of_ble_eq_true rfl⟩)  rfl hl.1 rfl (Nat.le_of_ble_eq_true rfl) dX8_haveCommon_13 ⟨Nat.le_of_ble_eq_true rfl, Nat.le_of_ble_eq_true rfl⟩) (fun H locs hw => ?_)
    refine z_goe hw.2 (z_runS Cx hw (c_X8_has E l w y (zfir x)) (va_cwS 2 Cx.1.2.2.2.2 gX8_haveCommon_X8_has rfl rfl rfl (by decide +kernel) ⟨Nat.le_of_ble_eq_true rfl, Nat.le_of_ble_eq_true rfl⟩)  rfl hl.1 rfl (Nat.le_of_ble_eq_true rfl) dX8_haveCommon_16 ⟨Nat.le_of_ble_eq_true rfl, Nat.le_of_ble_eq_true rfl⟩) (fun H locs hw => ?_)
    refine lv_if_eq (tgt := 26) hx hb dX8_haveCommon_19 (by decide) (fun c_19 => ?_) (fun c_19 => ?_)
    · skip
      refine lv_iconst (v := 0) hx hb dX8_haveCommon_26 (by decide) ?_
      exact (z_ie Cx hr rfl (Nat.le_of_ble_eq_true rfl) (Nat.le_of_ble_eq_true rfl) hw dX8_haveCommon_27 (by simp_all [zmcom]))
    · skip
      refine lv_iconst (v := 1) hx hb dX8_haveCommon_22 (by decide) ?_
      refine lv_goto (tgt := 27) hx hb dX8_haveCommon_23 (by decide) ?_
      exact (z_ie Cx hr rfl (Nat.le_of_ble_eq_true rfl) (Nat.le_of_ble_eq_true rfl) hw dX8_haveCommon_27 (by simp_all [zmcom]))

set_option maxRecDepth 100000 in
set_option maxHeartbeats 4000000 in
/-- isIn -/
theorem c_X8_isIn (E : zG) (l : Launch) (w : Heap → Prop) (a n : Int32) : Met l yX8_isIn wsX8_isIn (zR 0 0 0) (zPre E [.int a, .int n] w) (zRi E w (zb (decide (¬ a < 0 ∧ a < n)))) 0 0 (eA E) := by
  refine z_of (cc := cX8_isIn) (maxL := 2) (ret := (some .boolean)) (by decide) rfl rfl (Nat.le_of_ble_eq_true rfl) ?_
  intro p e s m below meth c ls Cx hr hnm hw hl
  have hx := Cx.1.1
  have hb := Cx.1.2.1
  have hl : lv_has ls 2 [(0, .int a), (1, .int n)] := hl
  refine lv_iload_n hx hb dX8_isIn_0 rfl (lv_at hl 0 rfl) ?_
  refine lv_if_lt (tgt := 13) hx hb dX8_isIn_1 (by decide) (fun c_1 => ?_) (fun c_1 => ?_)
  · skip
    refine lv_iconst (v := 0) hx hb dX8_isIn_13 (by decide) ?_
    exact (z_ie Cx hr rfl (Nat.le_of_ble_eq_true rfl) (Nat.le_of_ble_eq_true rfl) hw dX8_isIn_14 (by simp_all))
  · skip
    refine lv_iload_n hx hb dX8_isIn_4 rfl (lv_at hl 0 rfl) ?_
    refine lv_iload_n hx hb dX8_isIn_5 rfl (lv_at hl 1 rfl) ?_
    refine lv_icmp_ge (tgt := 13) hx hb dX8_isIn_6 (by decide) (fun c_6 => ?_) (fun c_6 => ?_)
    · skip
      refine lv_iconst (v := 0) hx hb dX8_isIn_13 (by decide) ?_
      exact (z_ie Cx hr rfl (Nat.le_of_ble_eq_true rfl) (Nat.le_of_ble_eq_true rfl) hw dX8_isIn_14 (by simp_all))
    · skip
      refine lv_iconst (v := 1) hx hb dX8_isIn_9 (by decide) ?_
      refine lv_goto (tgt := 14) hx hb dX8_isIn_10 (by decide) ?_
      exact (z_ie Cx hr rfl (Nat.le_of_ble_eq_true rfl) (Nat.le_of_ble_eq_true rfl) hw dX8_isIn_14 (by simp_all))

set_option maxRecDepth 100000 in
set_option maxHeartbeats 4000000 in
/-- isBlock -/
theorem c_X8_isBlock (E : zG) (l : Launch) (w : Heap → Prop) (b k : Int32) : Met l yX8_isBlock wsX8_isBlock (zR 0 0 0) (zPre E [.int b, .int k] w) (zRi E w (zb (decide (zmblk b k)))) 0 0 (eA E) := by
  refine z_of (cc := cX8_isBlock) (maxL := 2) (ret := (some .boolean)) (by decide) rfl rfl (Nat.le_of_ble_eq_true rfl) ?_
  intro p e s m below meth c ls Cx hr hnm hw hl
  have hx := Cx.1.1
  have hb := Cx.1.2.1
  have hl : lv_has ls 2 [(0, .int b), (1, .int k)] := hl
  refine lv_iload_n hx hb dX8_isBlock_0 rfl (lv_at hl 1 rfl) ?_
  refine lv_if_lt (tgt := 37) hx hb dX8_isBlock_1 (by decide) (fun c_1 => ?_) (fun c_1 => ?_)
  · skip
    refine lv_iconst (v := 0) hx hb dX8_isBlock_37 (by decide) ?_
    exact (z_ie Cx hr rfl (Nat.le_of_ble_eq_true rfl) (Nat.le_of_ble_eq_true rfl) hw dX8_isBlock_38 (by simp_all [zmblk]))
  · skip
    refine lv_iload_n hx hb dX8_isBlock_4 rfl (lv_at hl 1 rfl) ?_
    refine lv_bipush (v := 10) hx hb dX8_isBlock_5 (by decide) ?_
    refine lv_icmp_gt (tgt := 37) hx hb dX8_isBlock_7 (by decide) (fun c_7 => ?_) (fun c_7 => ?_)
    · skip
      refine lv_iconst (v := 0) hx hb dX8_isBlock_37 (by decide) ?_
      exact (z_ie Cx hr rfl (Nat.le_of_ble_eq_true rfl) (Nat.le_of_ble_eq_true rfl) hw dX8_isBlock_38 (by simp_all [zmblk]))
    · skip
      refine lv_iload_n hx hb dX8_isBlock_10 rfl (lv_at hl 0 rfl) ?_
      refine lv_if_lt (tgt := 37) hx hb dX8_isBlock_11 (by decide) (fun c_11 => ?_) (fun c_11 => ?_)
      · skip
        refine lv_iconst (v := 0) hx hb dX8_isBlock_37 (by decide) ?_
        exact (z_ie Cx hr rfl (Nat.le_of_ble_eq_true rfl) (Nat.le_of_ble_eq_true rfl) hw dX8_isBlock_38 (by simp_all [zmblk]))
      · skip
        refine lv_iload_n hx hb dX8_isBlock_14 rfl (lv_at hl 0 rfl) ?_
        refine lv_sipush (v := 1024) hx hb dX8_isBlock_15 (by decide) ?_
        refine lv_iconst (v := 1) hx hb dX8_isBlock_18 (by decide) ?_
        refine lv_iload_n hx hb dX8_isBlock_19 rfl (lv_at hl 1 rfl) ?_
        refine lv_ishl hx hb dX8_isBlock_20 ?_
        refine lv_isub hx hb dX8_isBlock_21 ?_
        refine lv_icmp_gt (tgt := 37) hx hb dX8_isBlock_22 (by decide) (fun c_22 => ?_) (fun c_22 => ?_)
        · skip
          refine lv_iconst (v := 0) hx hb dX8_isBlock_37 (by decide) ?_
          exact (z_ie Cx hr rfl (Nat.le_of_ble_eq_true rfl) (Nat.le_of_ble_eq_true rfl) hw dX8_isBlock_38 (by simp_all [zmblk]))
        · skip
          refine lv_iload_n hx hb dX8_isBlock_25 rfl (lv_at hl 0 rfl) ?_
          refine lv_iconst (v := 1) hx hb dX8_isBlock_26 (by decide) ?_
          refine lv_iload_n hx hb dX8_isBlock_27 rfl (lv_at hl 1 rfl) ?_
          refine lv_ishl hx hb dX8_isBlock_28 ?_
          refine lv_irem hx hb dX8_isBlock_29 (zsh_ne c_1 c_7) ?_
          refine lv_if_ne (tgt := 37) hx hb dX8_isBlock_30 (by decide) (fun c_30 => ?_) (fun c_30 => ?_)
          · skip
            refine lv_iconst (v := 0) hx hb dX8_isBlock_37 (by decide) ?_
            exact (z_ie Cx hr rfl (Nat.le_of_ble_eq_true rfl) (Nat.le_of_ble_eq_true rfl) hw dX8_isBlock_38 (by simp_all [zmblk]))
          · skip
            refine lv_iconst (v := 1) hx hb dX8_isBlock_33 (by decide) ?_
            refine lv_goto (tgt := 38) hx hb dX8_isBlock_34 (by decide) ?_
            exact (z_ie Cx hr rfl (Nat.le_of_ble_eq_true rfl) (Nat.le_of_ble_eq_true rfl) hw dX8_isBlock_38 (by simp_all [zmblk]))


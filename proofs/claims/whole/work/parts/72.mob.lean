set_option maxRecDepth 100000 in
set_option maxHeartbeats 4000000 in
/-- thrown -/
theorem c_X8_thrown (E : zG) (l : Launch) (X : va_W) (C : zLs) (y : Nat) (ad : Nat → Nat) (sc : Nat → Int32) (g : Nat → Nat → Int32)  : Met l yX8_thrown wsX8_thrown (zR 0 0 0) (zPre E [.ref y] (zQ E (X ++ zMw E y ad sc g) C)) (zRi E (zQ E (X ++ zMw E y ad sc g) C) (sc 0)) 0 0 (eA E) := by
  refine z_of (cc := cX8_thrown) (maxL := 1) (ret := (some .int)) (by decide) rfl rfl (Nat.le_of_ble_eq_true rfl) ?_
  intro p e s m below meth c ls Cx hr hnm hw hl
  have hx := Cx.1.1
  have hb := Cx.1.2.1
  have hl : lv_has ls 1 [(0, .ref y)] := hl
  refine lv_aload_n hx hb dX8_thrown_0 rfl (lv_at hl 0 rfl) ?_
  refine z_get Cx hw (T := TX8) (N := 26) (ci := 11) (fun _ h => List.mem_cons_of_mem _ (List.mem_append_right _ (h))) zM_x rfl 0 (by decide) (List.mem_of_getElem? (i := 1) rfl) rfl rfl dX8_thrown_1 ?_
  exact (z_ie Cx hr rfl (Nat.le_of_ble_eq_true rfl) (Nat.le_of_ble_eq_true rfl) hw dX8_thrown_4 rfl)

set_option maxRecDepth 100000 in
set_option maxHeartbeats 4000000 in
/-- holds -/
theorem c_X8_holds (E : zG) (l : Launch) (X : va_W) (C : zLs) (y : Nat) (ad : Nat → Nat) (sc : Nat → Int32) (g : Nat → Nat → Int32) (c0 : Int32) : Met l yX8_holds wsX8_holds (zR 0 0 0) (zPre E [.ref y, .int c0] (zQ E (X ++ zMw E y ad sc g) C)) (zRi E (zQ E (X ++ zMw E y ad (va_up sc 0 c0) g) C) (zb (decide (c0 = 0)))) 0 0 (eA E) := by
  refine z_of (cc := cX8_holds) (maxL := 2) (ret := (some .boolean)) (by decide) rfl rfl (Nat.le_of_ble_eq_true rfl) ?_
  intro p e s m below meth c ls Cx hr hnm hw hl
  have hx := Cx.1.1
  have hb := Cx.1.2.1
  have hl : lv_has ls 2 [(0, .ref y), (1, .int c0)] := hl
  refine lv_aload_n hx hb dX8_holds_0 rfl (lv_at hl 0 rfl) ?_
  refine lv_iload_n hx hb dX8_holds_1 rfl (lv_at hl 1 rfl) ?_
  refine z_put Cx (X := X) hw (T := TX8) (N := 26) (ci := 11) (ty := .int) (fun _ h => List.mem_cons_of_mem _ (List.mem_append_right _ (h))) tyX8 tyX8_ok nmX8 zM_o rfl 0 (by decide) (List.mem_of_getElem? (i := 1) rfl) rfl rfl (by decide +kernel) rfl rfl (Nat.le_of_ble_eq_true rfl) dX8_holds_2 (fun H locs hw2 => ?_)
  have hw := zM_putS 0 (c0) hw hw2 rfl
  refine lv_iload_n hx hb dX8_holds_5 rfl (lv_at hl 1 rfl) ?_
  refine lv_if_ne (tgt := 13) hx hb dX8_holds_6 (by decide) (fun c_6 => ?_) (fun c_6 => ?_)
  · skip
    refine lv_iconst (v := 0) hx hb dX8_holds_13 (by decide) ?_
    exact (z_ie Cx hr rfl (Nat.le_of_ble_eq_true rfl) (Nat.le_of_ble_eq_true rfl) hw dX8_holds_14 (by simp_all))
  · skip
    refine lv_iconst (v := 1) hx hb dX8_holds_9 (by decide) ?_
    refine lv_goto (tgt := 14) hx hb dX8_holds_10 (by decide) ?_
    exact (z_ie Cx hr rfl (Nat.le_of_ble_eq_true rfl) (Nat.le_of_ble_eq_true rfl) hw dX8_holds_14 (by simp_all))

set_option maxRecDepth 100000 in
set_option maxHeartbeats 4000000 in
/-- addGroup -/
theorem c_X8_addGroup (E : zG) (l : Launch) (X : va_W) (C : zLs) (y : Nat) (ad : Nat → Nat) (sc : Nat → Int32) (g : Nat → Nat → Int32)  : Met l yX8_addGroup wsX8_addGroup (zR 1 0 0) (zPre E [.ref y] (zQ E (X ++ zMw E y ad sc g) C)) (zRi E (zQ E (X ++ zMw E y ad (if sc 13 = 6 then va_up sc 0 1 else va_up (va_up sc 0 0) 13 (sc 13 + 1)) g) C) (if sc 13 = 6 then 0 else sc 13)) 0 0 (eA E) := by
  refine z_of (cc := cX8_addGroup) (maxL := 1) (ret := (some .int)) (by decide) rfl rfl (Nat.le_of_ble_eq_true rfl) ?_
  intro p e s m below meth c ls Cx hr hnm hw hl
  have hx := Cx.1.1
  have hb := Cx.1.2.1
  have hl : lv_has ls 1 [(0, .ref y)] := hl
  refine lv_aload_n hx hb dX8_addGroup_0 rfl (lv_at hl 0 rfl) ?_
  refine lv_aload_n hx hb dX8_addGroup_1 rfl (lv_at hl 0 rfl) ?_
  refine z_get Cx hw (T := TX8) (N := 26) (ci := 11) (fun _ h => List.mem_cons_of_mem _ (List.mem_append_right _ (h))) zM_x rfl 13 (by decide) (List.mem_of_getElem? (i := 1) rfl) rfl rfl dX8_addGroup_2 ?_
  refine lv_bipush (v := 6) hx hb dX8_addGroup_5 (by decide) ?_
  refine lv_icmp_ne (tgt := 14) hx hb dX8_addGroup_7 (by decide) (fun c_7 => ?_) (fun c_7 => ?_)
  · skip
    refine lv_iconst (v := 0) hx hb dX8_addGroup_14 (by decide) ?_
    refine z_goe hw.2 (z_runV Cx hw (c_X8_holds E l X C y ad sc g _) (cwV 1 Cx.1.2.2.2.2 gX8_addGroup_X8_holds rfl rfl rfl (by decide +kernel) ⟨Nat.le_of_ble_eq_true rfl, Nat.le_of_ble_eq_true rfl⟩) (z_recv Cx hw (r := (RX8, TX8, 26)) zM_x rfl) rfl hl.1 rfl (Nat.le_of_ble_eq_true rfl) dX8_addGroup_15 ⟨Nat.le_of_ble_eq_true rfl, Nat.le_of_ble_eq_true rfl⟩) (fun H locs hw => ?_)
    refine lv_if_ne (tgt := 23) hx hb dX8_addGroup_18 (by decide) (fun c_18 => ?_) (fun c_18 => ?_)
    · skip
      have c_19 : ¬ sc 13 = 6 := by
        intro h
        first
          | exact absurd h c_7
          | exact absurd (by decide) c_18
      refine lv_aload_n hx hb dX8_addGroup_23 rfl (lv_at hl 0 rfl) ?_
      refine lv_dup hx hb dX8_addGroup_24 rfl ?_
      refine z_get Cx hw (T := TX8) (N := 26) (ci := 11) (fun _ h => List.mem_cons_of_mem _ (List.mem_append_right _ (h))) zM_x rfl 13 (by decide) (List.mem_of_getElem? (i := 1) rfl) rfl rfl dX8_addGroup_25 ?_
      refine lv_iconst (v := 1) hx hb dX8_addGroup_28 (by decide) ?_
      refine lv_iadd hx hb dX8_addGroup_29 ?_
      refine z_put Cx (X := X) hw (T := TX8) (N := 26) (ci := 11) (ty := .int) (fun _ h => List.mem_cons_of_mem _ (List.mem_append_right _ (h))) tyX8 tyX8_ok nmX8 zM_o rfl 13 (by decide) (List.mem_of_getElem? (i := 1) rfl) rfl rfl (by decide +kernel) rfl rfl (Nat.le_of_ble_eq_true rfl) dX8_addGroup_30 (fun H locs hw2 => ?_)
      have hw := zM_putS 13 (sc 13 + 1) hw hw2 rfl
      refine lv_aload_n hx hb dX8_addGroup_33 rfl (lv_at hl 0 rfl) ?_
      refine z_get Cx hw (T := TX8) (N := 26) (ci := 11) (fun _ h => List.mem_cons_of_mem _ (List.mem_append_right _ (h))) zM_x rfl 13 (by decide) (List.mem_of_getElem? (i := 1) rfl) rfl rfl dX8_addGroup_34 ?_
      refine lv_iconst (v := 1) hx hb dX8_addGroup_37 (by decide) ?_
      refine lv_isub hx hb dX8_addGroup_38 ?_
      exact (z_ie Cx hr rfl (Nat.le_of_ble_eq_true rfl) (Nat.le_of_ble_eq_true rfl) (by rw [if_neg c_19]; first | exact hw | exact absurd c_7 c_19) dX8_addGroup_39 (by rw [if_neg c_19]; exact Int32.add_sub_cancel (sc 13) 1))
    · skip
      have c_19 : sc 13 = 6 := by
        first
          | exact c_7
          | exact absurd c_18 (by decide)
      refine lv_iconst (v := 0) hx hb dX8_addGroup_21 (by decide) ?_
      exact (z_ie Cx hr rfl (Nat.le_of_ble_eq_true rfl) (Nat.le_of_ble_eq_true rfl) (by rw [if_pos c_19]; first | exact hw | exact absurd c_19 c_7) dX8_addGroup_22 (by rw [if_pos c_19]))
  · skip
    refine lv_iconst (v := 1) hx hb dX8_addGroup_10 (by decide) ?_
    refine lv_goto (tgt := 15) hx hb dX8_addGroup_11 (by decide) ?_
    refine z_goe hw.2 (z_runV Cx hw (c_X8_holds E l X C y ad sc g _) (cwV 1 Cx.1.2.2.2.2 gX8_addGroup_X8_holds rfl rfl rfl (by decide +kernel) ⟨Nat.le_of_ble_eq_true rfl, Nat.le_of_ble_eq_true rfl⟩) (z_recv Cx hw (r := (RX8, TX8, 26)) zM_x rfl) rfl hl.1 rfl (Nat.le_of_ble_eq_true rfl) dX8_addGroup_15 ⟨Nat.le_of_ble_eq_true rfl, Nat.le_of_ble_eq_true rfl⟩) (fun H locs hw => ?_)
    refine lv_if_ne (tgt := 23) hx hb dX8_addGroup_18 (by decide) (fun c_18 => ?_) (fun c_18 => ?_)
    · skip
      have c_19 : ¬ sc 13 = 6 := by
        intro h
        first
          | exact absurd h c_7
          | exact absurd (by decide) c_18
      refine lv_aload_n hx hb dX8_addGroup_23 rfl (lv_at hl 0 rfl) ?_
      refine lv_dup hx hb dX8_addGroup_24 rfl ?_
      refine z_get Cx hw (T := TX8) (N := 26) (ci := 11) (fun _ h => List.mem_cons_of_mem _ (List.mem_append_right _ (h))) zM_x rfl 13 (by decide) (List.mem_of_getElem? (i := 1) rfl) rfl rfl dX8_addGroup_25 ?_
      refine lv_iconst (v := 1) hx hb dX8_addGroup_28 (by decide) ?_
      refine lv_iadd hx hb dX8_addGroup_29 ?_
      refine z_put Cx (X := X) hw (T := TX8) (N := 26) (ci := 11) (ty := .int) (fun _ h => List.mem_cons_of_mem _ (List.mem_append_right _ (h))) tyX8 tyX8_ok nmX8 zM_o rfl 13 (by decide) (List.mem_of_getElem? (i := 1) rfl) rfl rfl (by decide +kernel) rfl rfl (Nat.le_of_ble_eq_true rfl) dX8_addGroup_30 (fun H locs hw2 => ?_)
      have hw := zM_putS 13 (sc 13 + 1) hw hw2 rfl
      refine lv_aload_n hx hb dX8_addGroup_33 rfl (lv_at hl 0 rfl) ?_
      refine z_get Cx hw (T := TX8) (N := 26) (ci := 11) (fun _ h => List.mem_cons_of_mem _ (List.mem_append_right _ (h))) zM_x rfl 13 (by decide) (List.mem_of_getElem? (i := 1) rfl) rfl rfl dX8_addGroup_34 ?_
      refine lv_iconst (v := 1) hx hb dX8_addGroup_37 (by decide) ?_
      refine lv_isub hx hb dX8_addGroup_38 ?_
      exact (z_ie Cx hr rfl (Nat.le_of_ble_eq_true rfl) (Nat.le_of_ble_eq_true rfl) (by rw [if_neg c_19]; first | exact hw | exact absurd c_7 c_19) dX8_addGroup_39 (by rw [if_neg c_19]; exact Int32.add_sub_cancel (sc 13) 1))
    · skip
      have c_19 : sc 13 = 6 := by
        first
          | exact c_7
          | exact absurd c_18 (by decide)
      refine lv_iconst (v := 0) hx hb dX8_addGroup_21 (by decide) ?_
      exact (z_ie Cx hr rfl (Nat.le_of_ble_eq_true rfl) (Nat.le_of_ble_eq_true rfl) (by rw [if_pos c_19]; first | exact hw | exact absurd c_19 c_7) dX8_addGroup_22 (by rw [if_pos c_19]))

abbrev zmin (a n : Int32) : Bool := decide (¬ a < 0 ∧ a < n)
def zmpp (f la : Int32) : Bool := decide (¬ f < 0 ∧ ¬ la < f ∧ ¬ 15 < la)
def zmcon (n f t p : Int32) : Int32 := if ¬ (zmin f n = true ∧ zmin t n = true) then 1 else if f = t ∨ ¬ zmin p 16 = true then 2 else 0
set_option maxRecDepth 100000 in
set_option maxHeartbeats 4000000 in
/-- arePorts -/
theorem c_X8_arePorts (E : zG) (l : Launch) (w : Heap → Prop) (f la : Int32) : Met l yX8_arePorts wsX8_arePorts (zR 0 0 0) (zPre E [.int f, .int la] w) (zRi E w (zb (zmpp f la))) 0 0 (eA E) := by
  refine z_of (cc := cX8_arePorts) (maxL := 2) (ret := (some .boolean)) (by decide) rfl rfl (Nat.le_of_ble_eq_true rfl) ?_
  intro p e s m below meth c ls Cx hr hnm hw hl
  have hx := Cx.1.1
  have hb := Cx.1.2.1
  have hl : lv_has ls 2 [(0, .int f), (1, .int la)] := hl
  refine lv_iload_n hx hb dX8_arePorts_0 rfl (lv_at hl 0 rfl) ?_
  refine lv_if_lt (tgt := 19) hx hb dX8_arePorts_1 (by decide) (fun c_1 => ?_) (fun c_1 => ?_)
  · skip
    refine lv_iconst (v := 0) hx hb dX8_arePorts_19 (by decide) ?_
    exact (z_ie Cx hr rfl (Nat.le_of_ble_eq_true rfl) (Nat.le_of_ble_eq_true rfl) hw dX8_arePorts_20 (by simp_all [zmpp]))
  · skip
    refine lv_iload_n hx hb dX8_arePorts_4 rfl (lv_at hl 1 rfl) ?_
    refine lv_iload_n hx hb dX8_arePorts_5 rfl (lv_at hl 0 rfl) ?_
    refine lv_icmp_lt (tgt := 19) hx hb dX8_arePorts_6 (by decide) (fun c_6 => ?_) (fun c_6 => ?_)
    · skip
      refine lv_iconst (v := 0) hx hb dX8_arePorts_19 (by decide) ?_
      exact (z_ie Cx hr rfl (Nat.le_of_ble_eq_true rfl) (Nat.le_of_ble_eq_true rfl) hw dX8_arePorts_20 (by simp_all [zmpp]))
    · skip
      refine lv_iload_n hx hb dX8_arePorts_9 rfl (lv_at hl 1 rfl) ?_
      refine lv_bipush (v := 15) hx hb dX8_arePorts_10 (by decide) ?_
      refine lv_icmp_gt (tgt := 19) hx hb dX8_arePorts_12 (by decide) (fun c_12 => ?_) (fun c_12 => ?_)
      · skip
        refine lv_iconst (v := 0) hx hb dX8_arePorts_19 (by decide) ?_
        exact (z_ie Cx hr rfl (Nat.le_of_ble_eq_true rfl) (Nat.le_of_ble_eq_true rfl) hw dX8_arePorts_20 (by simp_all [zmpp]))
      · skip
        refine lv_iconst (v := 1) hx hb dX8_arePorts_15 (by decide) ?_
        refine lv_goto (tgt := 20) hx hb dX8_arePorts_16 (by decide) ?_
        exact (z_ie Cx hr rfl (Nat.le_of_ble_eq_true rfl) (Nat.le_of_ble_eq_true rfl) hw dX8_arePorts_20 (by simp_all [zmpp]))

set_option maxRecDepth 100000 in
set_option maxHeartbeats 4000000 in
/-- areHosts -/
theorem c_X8_areHosts (E : zG) (l : Launch) (X : va_W) (C : zLs) (y : Nat) (ad : Nat → Nat) (sc : Nat → Int32) (g : Nat → Nat → Int32) (f t : Int32) : Met l yX8_areHosts wsX8_areHosts (zR 1 0 0) (zPre E [.ref y, .int f, .int t] (zQ E (X ++ zMw E y ad sc g) C)) (zRi E (zQ E (X ++ zMw E y ad sc g) C) (zb (zmin f (sc 6) && zmin t (sc 6)))) 0 0 (eA E) := by
  refine z_of (cc := cX8_areHosts) (maxL := 3) (ret := (some .boolean)) (by decide) rfl rfl (Nat.le_of_ble_eq_true rfl) ?_
  intro p e s m below meth c ls Cx hr hnm hw hl
  have hx := Cx.1.1
  have hb := Cx.1.2.1
  have hl : lv_has ls 3 [(0, .ref y), (1, .int f), (2, .int t)] := hl
  refine lv_iload_n hx hb dX8_areHosts_0 rfl (lv_at hl 1 rfl) ?_
  refine lv_aload_n hx hb dX8_areHosts_1 rfl (lv_at hl 0 rfl) ?_
  refine z_get Cx hw (T := TX8) (N := 26) (ci := 11) (fun _ h => List.mem_cons_of_mem _ (List.mem_append_right _ (h))) zM_x rfl 6 (by decide) (List.mem_of_getElem? (i := 1) rfl) rfl rfl dX8_areHosts_2 ?_
  refine z_goe hw.2 (z_runS Cx hw (c_X8_isIn E l (zQ E (X ++ zMw E y ad sc g) C) f (sc 6)) (va_cwS 2 Cx.1.2.2.2.2 gX8_areHosts_X8_isIn rfl rfl rfl (by decide +kernel) ⟨Nat.le_of_ble_eq_true rfl, Nat.le_of_ble_eq_true rfl⟩)  rfl hl.1 rfl (Nat.le_of_ble_eq_true rfl) dX8_areHosts_5 ⟨Nat.le_of_ble_eq_true rfl, Nat.le_of_ble_eq_true rfl⟩) (fun H locs hw => ?_)
  refine lv_if_eq (tgt := 26) hx hb dX8_areHosts_8 (by decide) (fun c_8 => ?_) (fun c_8 => ?_)
  · skip
    have e1 : zmin f (sc 6) = false := (zb_0 _).mp c_8
    refine lv_iconst (v := 0) hx hb dX8_areHosts_26 (by decide) ?_
    exact (z_ie Cx hr rfl (Nat.le_of_ble_eq_true rfl) (Nat.le_of_ble_eq_true rfl) hw dX8_areHosts_27 (by first | (rw [e1, e2]; rfl) | (rw [e1]; rfl)))
  · skip
    have e1 : zmin f (sc 6) = true := (zb_1 _).mp c_8
    refine lv_iload_n hx hb dX8_areHosts_11 rfl (lv_at hl 2 rfl) ?_
    refine lv_aload_n hx hb dX8_areHosts_12 rfl (lv_at hl 0 rfl) ?_
    refine z_get Cx hw (T := TX8) (N := 26) (ci := 11) (fun _ h => List.mem_cons_of_mem _ (List.mem_append_right _ (h))) zM_x rfl 6 (by decide) (List.mem_of_getElem? (i := 1) rfl) rfl rfl dX8_areHosts_13 ?_
    refine z_goe hw.2 (z_runS Cx hw (c_X8_isIn E l (zQ E (X ++ zMw E y ad sc g) C) t (sc 6)) (va_cwS 2 Cx.1.2.2.2.2 gX8_areHosts_X8_isIn rfl rfl rfl (by decide +kernel) ⟨Nat.le_of_ble_eq_true rfl, Nat.le_of_ble_eq_true rfl⟩)  rfl hl.1 rfl (Nat.le_of_ble_eq_true rfl) dX8_areHosts_16 ⟨Nat.le_of_ble_eq_true rfl, Nat.le_of_ble_eq_true rfl⟩) (fun H locs hw => ?_)
    refine lv_if_eq (tgt := 26) hx hb dX8_areHosts_19 (by decide) (fun c_19 => ?_) (fun c_19 => ?_)
    · skip
      have e2 : zmin t (sc 6) = false := (zb_0 _).mp c_19
      refine lv_iconst (v := 0) hx hb dX8_areHosts_26 (by decide) ?_
      exact (z_ie Cx hr rfl (Nat.le_of_ble_eq_true rfl) (Nat.le_of_ble_eq_true rfl) hw dX8_areHosts_27 (by first | (rw [e1, e2]; rfl) | (rw [e1]; rfl)))
    · skip
      have e2 : zmin t (sc 6) = true := (zb_1 _).mp c_19
      refine lv_iconst (v := 1) hx hb dX8_areHosts_22 (by decide) ?_
      refine lv_goto (tgt := 27) hx hb dX8_areHosts_23 (by decide) ?_
      exact (z_ie Cx hr rfl (Nat.le_of_ble_eq_true rfl) (Nat.le_of_ble_eq_true rfl) hw dX8_areHosts_27 (by first | (rw [e1, e2]; rfl) | (rw [e1]; rfl)))

set_option maxRecDepth 100000 in
set_option maxHeartbeats 4000000 in
/-- isConnection -/
theorem c_X8_isConnection (E : zG) (l : Launch) (X : va_W) (C : zLs) (y : Nat) (ad : Nat → Nat) (sc : Nat → Int32) (g : Nat → Nat → Int32) (f t p0 : Int32) : Met l yX8_isConnection wsX8_isConnection (zR 2 0 0) (zPre E [.ref y, .int f, .int t, .int p0] (zQ E (X ++ zMw E y ad sc g) C)) (zRi E (zQ E (X ++ zMw E y ad (va_up sc 0 (zmcon (sc 6) f t p0)) g) C) (zb (decide (zmcon (sc 6) f t p0 = 0)))) 0 0 (eA E) := by
  refine z_of (cc := cX8_isConnection) (maxL := 4) (ret := (some .boolean)) (by decide) rfl rfl (Nat.le_of_ble_eq_true rfl) ?_
  intro p e s m below meth c ls Cx hr hnm hw hl
  have hx := Cx.1.1
  have hb := Cx.1.2.1
  have hl : lv_has ls 4 [(0, .ref y), (1, .int f), (2, .int t), (3, .int p0)] := hl
  refine lv_aload_n hx hb dX8_isConnection_0 rfl (lv_at hl 0 rfl) ?_
  refine lv_aload_n hx hb dX8_isConnection_1 rfl (lv_at hl 0 rfl) ?_
  refine lv_iload_n hx hb dX8_isConnection_2 rfl (lv_at hl 1 rfl) ?_
  refine lv_iload_n hx hb dX8_isConnection_3 rfl (lv_at hl 2 rfl) ?_
  refine z_goe hw.2 (z_runV Cx hw (c_X8_areHosts E l X C y ad sc g f t) (cwV 2 Cx.1.2.2.2.2 gX8_isConnection_X8_areHosts rfl rfl rfl (by decide +kernel) ⟨Nat.le_of_ble_eq_true rfl, Nat.le_of_ble_eq_true rfl⟩) (z_recv Cx hw (r := (RX8, TX8, 26)) zM_x rfl) rfl hl.1 rfl (Nat.le_of_ble_eq_true rfl) dX8_isConnection_4 ⟨Nat.le_of_ble_eq_true rfl, Nat.le_of_ble_eq_true rfl⟩) (fun H locs hw => ?_)
  refine lv_if_ne (tgt := 14) hx hb dX8_isConnection_7 (by decide) (fun c_7 => ?_) (fun c_7 => ?_)
  · skip
    have h1 : ¬ ¬ (zmin f (sc 6) = true ∧ zmin t (sc 6) = true) := fun h => h ((Bool.and_eq_true _ _).mp ((zb_1 _).mp c_7))
    refine lv_iload_n hx hb dX8_isConnection_14 rfl (lv_at hl 1 rfl) ?_
    refine lv_iload_n hx hb dX8_isConnection_15 rfl (lv_at hl 2 rfl) ?_
    refine lv_icmp_eq (tgt := 28) hx hb dX8_isConnection_16 (by decide) (fun c_16 => ?_) (fun c_16 => ?_)
    · skip
      have h2 : f = t ∨ ¬ zmin p0 16 = true := Or.inl c_16
      have h9 : zmcon (sc 6) f t p0 = 2 := by unfold zmcon; rw [if_neg h1, if_pos h2]
      refine lv_iconst (v := 2) hx hb dX8_isConnection_28 (by decide) ?_
      refine lv_goto (tgt := 33) hx hb dX8_isConnection_29 (by decide) ?_
      refine z_goe hw.2 (z_runV Cx hw (c_X8_holds E l X C y ad sc g _) (cwV 1 Cx.1.2.2.2.2 gX8_isConnection_X8_holds rfl rfl rfl (by decide +kernel) ⟨Nat.le_of_ble_eq_true rfl, Nat.le_of_ble_eq_true rfl⟩) (z_recv Cx hw (r := (RX8, TX8, 26)) zM_x rfl) rfl hl.1 rfl (Nat.le_of_ble_eq_true rfl) dX8_isConnection_33 ⟨Nat.le_of_ble_eq_true rfl, Nat.le_of_ble_eq_true rfl⟩) (fun H locs hw => ?_)
      exact (z_ie Cx hr (by exact zb_n _) (Nat.le_of_ble_eq_true rfl) (Nat.le_of_ble_eq_true rfl) (by rw [h9]; exact hw) dX8_isConnection_36 (by rw [h9]))
    · skip
      refine lv_iload_n hx hb dX8_isConnection_19 rfl (lv_at hl 3 rfl) ?_
      refine lv_bipush (v := 16) hx hb dX8_isConnection_20 (by decide) ?_
      refine z_goe hw.2 (z_runS Cx hw (c_X8_isIn E l (zQ E (X ++ zMw E y ad sc g) C) p0 16) (va_cwS 2 Cx.1.2.2.2.2 gX8_isConnection_X8_isIn rfl rfl rfl (by decide +kernel) ⟨Nat.le_of_ble_eq_true rfl, Nat.le_of_ble_eq_true rfl⟩)  rfl hl.1 rfl (Nat.le_of_ble_eq_true rfl) dX8_isConnection_22 ⟨Nat.le_of_ble_eq_true rfl, Nat.le_of_ble_eq_true rfl⟩) (fun H locs hw => ?_)
      refine lv_if_ne (tgt := 32) hx hb dX8_isConnection_25 (by decide) (fun c_25 => ?_) (fun c_25 => ?_)
      · skip
        have h2 : ¬ (f = t ∨ ¬ zmin p0 16 = true) := fun h => h.elim (fun h => c_16 h) (fun h => h ((zb_1 _).mp c_25))
        have h9 : zmcon (sc 6) f t p0 = 0 := by unfold zmcon; rw [if_neg h1, if_neg h2]
        refine lv_iconst (v := 0) hx hb dX8_isConnection_32 (by decide) ?_
        refine z_goe hw.2 (z_runV Cx hw (c_X8_holds E l X C y ad sc g _) (cwV 1 Cx.1.2.2.2.2 gX8_isConnection_X8_holds rfl rfl rfl (by decide +kernel) ⟨Nat.le_of_ble_eq_true rfl, Nat.le_of_ble_eq_true rfl⟩) (z_recv Cx hw (r := (RX8, TX8, 26)) zM_x rfl) rfl hl.1 rfl (Nat.le_of_ble_eq_true rfl) dX8_isConnection_33 ⟨Nat.le_of_ble_eq_true rfl, Nat.le_of_ble_eq_true rfl⟩) (fun H locs hw => ?_)
        exact (z_ie Cx hr (by exact zb_n _) (Nat.le_of_ble_eq_true rfl) (Nat.le_of_ble_eq_true rfl) (by rw [h9]; exact hw) dX8_isConnection_36 (by rw [h9]))
      · skip
        have h2 : f = t ∨ ¬ zmin p0 16 = true := Or.inr (by rw [show zmin p0 16 = false from (zb_0 _).mp c_25]; decide)
        have h9 : zmcon (sc 6) f t p0 = 2 := by unfold zmcon; rw [if_neg h1, if_pos h2]
        refine lv_iconst (v := 2) hx hb dX8_isConnection_28 (by decide) ?_
        refine lv_goto (tgt := 33) hx hb dX8_isConnection_29 (by decide) ?_
        refine z_goe hw.2 (z_runV Cx hw (c_X8_holds E l X C y ad sc g _) (cwV 1 Cx.1.2.2.2.2 gX8_isConnection_X8_holds rfl rfl rfl (by decide +kernel) ⟨Nat.le_of_ble_eq_true rfl, Nat.le_of_ble_eq_true rfl⟩) (z_recv Cx hw (r := (RX8, TX8, 26)) zM_x rfl) rfl hl.1 rfl (Nat.le_of_ble_eq_true rfl) dX8_isConnection_33 ⟨Nat.le_of_ble_eq_true rfl, Nat.le_of_ble_eq_true rfl⟩) (fun H locs hw => ?_)
        exact (z_ie Cx hr (by exact zb_n _) (Nat.le_of_ble_eq_true rfl) (Nat.le_of_ble_eq_true rfl) (by rw [h9]; exact hw) dX8_isConnection_36 (by rw [h9]))
  · skip
    have h1 : ¬ (zmin f (sc 6) = true ∧ zmin t (sc 6) = true) := fun h => by rw [h.1, h.2] at c_7; exact absurd c_7 (by decide)
    have h9 : zmcon (sc 6) f t p0 = 1 := by unfold zmcon; rw [if_pos h1]
    refine lv_iconst (v := 1) hx hb dX8_isConnection_10 (by decide) ?_
    refine lv_goto (tgt := 33) hx hb dX8_isConnection_11 (by decide) ?_
    refine z_goe hw.2 (z_runV Cx hw (c_X8_holds E l X C y ad sc g _) (cwV 1 Cx.1.2.2.2.2 gX8_isConnection_X8_holds rfl rfl rfl (by decide +kernel) ⟨Nat.le_of_ble_eq_true rfl, Nat.le_of_ble_eq_true rfl⟩) (z_recv Cx hw (r := (RX8, TX8, 26)) zM_x rfl) rfl hl.1 rfl (Nat.le_of_ble_eq_true rfl) dX8_isConnection_33 ⟨Nat.le_of_ble_eq_true rfl, Nat.le_of_ble_eq_true rfl⟩) (fun H locs hw => ?_)
    exact (z_ie Cx hr (by exact zb_n _) (Nat.le_of_ble_eq_true rfl) (Nat.le_of_ble_eq_true rfl) (by rw [h9]; exact hw) dX8_isConnection_36 (by rw [h9]))


set_option maxRecDepth 100000 in
set_option maxHeartbeats 4000000 in
/-- addPeering -/
theorem c_m_addPeering (E : zG) (l : Launch) (X : va_W) (C : zLs) (y : Nat) (ad : Nat → Nat) (sc : Nat → Int32) (g : Nat → Nat → Int32) (V : zCl) (hT : zMT sc g V) (hI : zInv V) (f t : Int32) : Met l yX8_addPeering wsX8_addPeering (zR 3 0 0) (zPre E [.ref y, .int f, .int t] (zQ E (X ++ zMw E y ad sc g) C)) (zPm E X C y ad (zA_addPeering V f t)) 0 0 (eA E) := by
  refine z_of (cc := cX8_addPeering) (maxL := 4) (ret := (some .int)) (by decide) rfl rfl (Nat.le_of_ble_eq_true rfl) ?_
  intro p e s m below meth c ls Cx hr hnm hw hl
  have hx := Cx.1.1
  have hb := Cx.1.2.1
  have hR := hT.1
  have hn1 : sc 1 = nI (vN V).length := hR.1.1
  have hm1 := hR.1.2.1
  have hn3 : sc 3 = nI (vS V).length := hR.2.1.1
  have hm3 := hR.2.1.2.1
  have hn6 : sc 6 = nI (vH V).length := hR.2.2.1.1
  have hm6 := hR.2.2.1.2.1
  have hn10 : sc 10 = nI (vP V).length := hR.2.2.2.1.1
  have hm10 := hR.2.2.2.1.2.1
  have hn13 : sc 13 = nI (vG V).length := hR.2.2.2.2.1
  have hm13 := hR.2.2.2.2.2.1
  have hl : lv_has ls 4 [(0, .ref y), (1, .int f), (2, .int t)] := hl
  refine lv_iload_n hx hb dX8_addPeering_0 rfl (lv_at hl 1 rfl) ?_
  refine lv_aload_n hx hb dX8_addPeering_1 rfl (lv_at hl 0 rfl) ?_
  refine z_get Cx hw (T := TX8) (N := 26) (ci := 11) (fun _ h => List.mem_cons_of_mem _ (List.mem_append_right _ (h))) zM_x rfl 1 (by decide) (List.mem_of_getElem? (i := 1) rfl) rfl rfl dX8_addPeering_2 ?_
  refine z_goe hw.2 (z_runS Cx hw (c_X8_isIn E l (zQ E (X ++ zMw E y ad sc g) C) f (sc 1)) (va_cwS 2 Cx.1.2.2.2.2 gX8_addPeering_X8_isIn rfl rfl rfl (by decide +kernel) ⟨Nat.le_of_ble_eq_true rfl, Nat.le_of_ble_eq_true rfl⟩)  rfl hl.1 rfl (Nat.le_of_ble_eq_true rfl) dX8_addPeering_5 ⟨Nat.le_of_ble_eq_true rfl, Nat.le_of_ble_eq_true rfl⟩) (fun H locs hw => ?_)
  refine lv_topi (fun x_5 ex_5 => ?_)
  obtain ⟨q1, hq1, e_5⟩ : ∃ q : Bool, (q = true ↔ zix f (vN V).length) ∧ x_5 = zb q := ⟨_, (by rw [hn1]; exact zmin_ix (by omega)), ex_5⟩
  clear ex_5
  subst e_5
  have cut_28 : ∀ (q : Bool) (H : Heap) (locs : List Loc) (ls : Array Slot), (q = true ↔ (zix f (vN V).length ∧ zix t (vN V).length)) → zHw E (zQ E (X ++ zMw E y ad sc g) C) s H locs → lv_has ls 4 [(0, .ref y), (1, .int f), (2, .int t), (3, .int (zb q))] → W p l e (zR 3 0 0) s m ([.ref y, .int f, .int t] : List Value).toArray below meth c H locs 0 0 (MQ below (zPm E X C y ad (zA_addPeering V f t)) ([.ref y, .int f, .int t] : List Value).toArray s 0 0 (eA E)) (F0 m 28 ls []) := by
    intro q H locs ls hq hw hl
    refine lv_aload_n hx hb dX8_addPeering_28 rfl (lv_at hl 0 rfl) ?_
    refine lv_iload_n hx hb dX8_addPeering_29 rfl (lv_at hl 3 rfl) ?_
    refine lv_if_ne (tgt := 37) hx hb dX8_addPeering_30 (by decide) (fun c_30 => ?_) (fun c_30 => ?_)
    · skip
      have hzq := hq.mp ((zb_1 _).mp c_30)
      obtain ⟨⟨k, hk, ek⟩, j, hj, ej⟩ := hzq
      refine lv_iload_n hx hb dX8_addPeering_37 rfl (lv_at hl 1 rfl) ?_
      refine lv_iload_n hx hb dX8_addPeering_38 rfl (lv_at hl 2 rfl) ?_
      refine lv_icmp_ne (tgt := 46) hx hb dX8_addPeering_39 (by decide) (fun c_39 => ?_) (fun c_39 => ?_)
      · skip
        refine lv_aload_n hx hb dX8_addPeering_46 rfl (lv_at hl 0 rfl) ?_
        refine z_get Cx hw (T := TX8) (N := 26) (ci := 11) (fun _ h => List.mem_cons_of_mem _ (List.mem_append_right _ (h))) zM_x rfl 10 (by decide) (List.mem_of_getElem? (i := 2) rfl) rfl rfl dX8_addPeering_47 ?_
        refine lv_topi (fun x_47 ex_47 => ?_)
        have e_47 : x_47 = nI (vP V).length := ex_47.trans hn10
        clear ex_47
        subst e_47
        refine lv_bipush (v := nI 6) hx hb dX8_addPeering_50 rfl ?_
        refine lv_icmp_ne (tgt := 59) hx hb dX8_addPeering_52 (by decide) (fun c_52 => ?_) (fun c_52 => ?_)
        · skip
          have hcd : (vP V).length < 6 := by
            have h9 : ¬ (vP V).length = 6 := fun h => c_52 (by rw [h])
            omega
          refine lv_iconst (v := nI 0) hx hb dX8_addPeering_59 rfl ?_
          refine z_goe hw.2 (z_runV Cx hw (c_X8_holds E l X C y ad sc g _) (cwV 1 Cx.1.2.2.2.2 gX8_addPeering_X8_holds rfl rfl rfl (by decide +kernel) ⟨Nat.le_of_ble_eq_true rfl, Nat.le_of_ble_eq_true rfl⟩) (z_recv Cx hw (r := (RX8, TX8, 26)) zM_x rfl) rfl hl.1 rfl (Nat.le_of_ble_eq_true rfl) dX8_addPeering_60 ⟨Nat.le_of_ble_eq_true rfl, Nat.le_of_ble_eq_true rfl⟩) (fun H locs hw => ?_)
          refine lv_if_ne (tgt := 68) hx hb dX8_addPeering_63 (by decide) (fun c_63 => ?_) (fun c_63 => ?_)
          · skip
            subst ek
            subst ej
            refine lv_aload_n hx hb dX8_addPeering_68 rfl (lv_at hl 0 rfl) ?_
            refine z_get Cx hw (T := TX8) (N := 26) (ci := 11) (fun _ h => List.mem_cons_of_mem _ (List.mem_append_right _ (h))) zM_x rfl 11 (by decide) (List.mem_of_getElem? (i := 3) rfl) rfl rfl dX8_addPeering_69 ?_
            refine lv_aload_n hx hb dX8_addPeering_72 rfl (lv_at hl 0 rfl) ?_
            refine z_get Cx hw (T := TX8) (N := 26) (ci := 11) (fun _ h => List.mem_cons_of_mem _ (List.mem_append_right _ (h))) zM_x rfl 10 (by decide) (List.mem_of_getElem? (i := 2) rfl) rfl rfl dX8_addPeering_73 ?_
            refine lv_topi (fun x_73 ex_73 => ?_)
            have e_73 : x_73 = nI (vP V).length := ex_73.trans hn10
            clear ex_73
            subst e_73
            refine lv_iload_n hx hb dX8_addPeering_76 rfl (lv_at hl 1 rfl) ?_
            refine zm_iast Cx hw (k := 11) (n := 6) (by decide) hcd dX8_addPeering_77 (fun H locs hw => ?_)
            refine lv_aload_n hx hb dX8_addPeering_78 rfl (lv_at hl 0 rfl) ?_
            refine z_get Cx hw (T := TX8) (N := 26) (ci := 11) (fun _ h => List.mem_cons_of_mem _ (List.mem_append_right _ (h))) zM_x rfl 12 (by decide) (List.mem_of_getElem? (i := 4) rfl) rfl rfl dX8_addPeering_79 ?_
            refine lv_aload_n hx hb dX8_addPeering_82 rfl (lv_at hl 0 rfl) ?_
            refine z_get Cx hw (T := TX8) (N := 26) (ci := 11) (fun _ h => List.mem_cons_of_mem _ (List.mem_append_right _ (h))) zM_x rfl 10 (by decide) (List.mem_of_getElem? (i := 2) rfl) rfl rfl dX8_addPeering_83 ?_
            refine lv_topi (fun x_83 ex_83 => ?_)
            have e_83 : x_83 = nI (vP V).length := ex_83.trans hn10
            clear ex_83
            subst e_83
            refine lv_iload_n hx hb dX8_addPeering_86 rfl (lv_at hl 2 rfl) ?_
            refine zm_iast Cx hw (k := 12) (n := 6) (by decide) hcd dX8_addPeering_87 (fun H locs hw => ?_)
            refine lv_aload_n hx hb dX8_addPeering_88 rfl (lv_at hl 0 rfl) ?_
            refine lv_dup hx hb dX8_addPeering_89 rfl ?_
            refine z_get Cx hw (T := TX8) (N := 26) (ci := 11) (fun _ h => List.mem_cons_of_mem _ (List.mem_append_right _ (h))) zM_x rfl 10 (by decide) (List.mem_of_getElem? (i := 2) rfl) rfl rfl dX8_addPeering_90 ?_
            refine lv_topi (fun x_90 ex_90 => ?_)
            have e_90 : x_90 = nI (vP V).length := ex_90.trans hn10
            clear ex_90
            subst e_90
            refine lv_iconst (v := 1) hx hb dX8_addPeering_93 (by decide) ?_
            refine lv_iadd hx hb dX8_addPeering_94 ?_
            rw [show nI (vP V).length + 1 = nI ((vP V).length + 1) from nI_1 _]
            refine z_put Cx (X := X) hw (T := TX8) (N := 26) (ci := 11) (ty := .int) (fun _ h => List.mem_cons_of_mem _ (List.mem_append_right _ (h))) tyX8 tyX8_ok nmX8 zM_o rfl 10 (by decide) (List.mem_of_getElem? (i := 2) rfl) rfl rfl (by decide +kernel) rfl rfl (Nat.le_of_ble_eq_true rfl) dX8_addPeering_95 (fun H locs hw2 => ?_)
            have hw := zM_putS 10 (nI ((vP V).length + 1)) hw hw2 rfl
            refine lv_aload_n hx hb dX8_addPeering_98 rfl (lv_at hl 0 rfl) ?_
            refine z_get Cx hw (T := TX8) (N := 26) (ci := 11) (fun _ h => List.mem_cons_of_mem _ (List.mem_append_right _ (h))) zM_x rfl 10 (by decide) (List.mem_of_getElem? (i := 2) rfl) rfl rfl dX8_addPeering_99 ?_
            refine lv_iconst (v := 1) hx hb dX8_addPeering_102 (by decide) ?_
            refine lv_isub hx hb dX8_addPeering_103 ?_
            exact z_iret (wf := (fun (u : zU) => zQ E (X ++ zMw E y ad u.2.1 u.2.2.1) C)) Cx hr rfl (Nat.le_of_ble_eq_true rfl) (Nat.le_of_ble_eq_true rfl) (0, _, _, _) hw ⟨Or.inr ⟨⟨⟨k, hk, rfl⟩, j, hj, rfl⟩, k, j, rfl, rfl, hk, hj, Or.inr ⟨c_39, Or.inr ⟨hcd, rfl, rfl, nI_pred _⟩⟩⟩, zMT_addP (zMT_0 hT _) hcd hk hj, rfl⟩ dX8_addPeering_104
          · skip
            exact absurd c_63 (by decide)
        · skip
          have hcd : ¬ (vP V).length < 6 := by
            have h9 := (nI_eq (a := (vP V).length) (b := 6) (by omega) (by omega)).mp c_52
            omega
          refine lv_iconst (v := nI 3) hx hb dX8_addPeering_55 rfl ?_
          refine lv_goto (tgt := 60) hx hb dX8_addPeering_56 (by decide) ?_
          refine z_goe hw.2 (z_runV Cx hw (c_X8_holds E l X C y ad sc g _) (cwV 1 Cx.1.2.2.2.2 gX8_addPeering_X8_holds rfl rfl rfl (by decide +kernel) ⟨Nat.le_of_ble_eq_true rfl, Nat.le_of_ble_eq_true rfl⟩) (z_recv Cx hw (r := (RX8, TX8, 26)) zM_x rfl) rfl hl.1 rfl (Nat.le_of_ble_eq_true rfl) dX8_addPeering_60 ⟨Nat.le_of_ble_eq_true rfl, Nat.le_of_ble_eq_true rfl⟩) (fun H locs hw => ?_)
          refine lv_if_ne (tgt := 68) hx hb dX8_addPeering_63 (by decide) (fun c_63 => ?_) (fun c_63 => ?_)
          · skip
            exact absurd (by decide) c_63
          · skip
            refine lv_iconst (v := 0) hx hb dX8_addPeering_66 (by decide) ?_
            exact z_iret (wf := (fun (u : zU) => zQ E (X ++ zMw E y ad u.2.1 u.2.2.1) C)) Cx hr rfl (Nat.le_of_ble_eq_true rfl) (Nat.le_of_ble_eq_true rfl) (3, _, _, V) hw ⟨Or.inr ⟨⟨⟨k, hk, ek⟩, j, hj, ej⟩, k, j, ek, ej, hk, hj, Or.inr ⟨c_39, Or.inl ⟨rfl, rfl, hcd⟩⟩⟩, zMT_0 hT _, rfl⟩ dX8_addPeering_67
      · skip
        refine lv_iconst (v := nI 2) hx hb dX8_addPeering_42 rfl ?_
        refine lv_goto (tgt := 60) hx hb dX8_addPeering_43 (by decide) ?_
        refine z_goe hw.2 (z_runV Cx hw (c_X8_holds E l X C y ad sc g _) (cwV 1 Cx.1.2.2.2.2 gX8_addPeering_X8_holds rfl rfl rfl (by decide +kernel) ⟨Nat.le_of_ble_eq_true rfl, Nat.le_of_ble_eq_true rfl⟩) (z_recv Cx hw (r := (RX8, TX8, 26)) zM_x rfl) rfl hl.1 rfl (Nat.le_of_ble_eq_true rfl) dX8_addPeering_60 ⟨Nat.le_of_ble_eq_true rfl, Nat.le_of_ble_eq_true rfl⟩) (fun H locs hw => ?_)
        refine lv_if_ne (tgt := 68) hx hb dX8_addPeering_63 (by decide) (fun c_63 => ?_) (fun c_63 => ?_)
        · skip
          exact absurd (by decide) c_63
        · skip
          refine lv_iconst (v := 0) hx hb dX8_addPeering_66 (by decide) ?_
          exact z_iret (wf := (fun (u : zU) => zQ E (X ++ zMw E y ad u.2.1 u.2.2.1) C)) Cx hr rfl (Nat.le_of_ble_eq_true rfl) (Nat.le_of_ble_eq_true rfl) (2, _, _, V) hw ⟨Or.inr ⟨⟨⟨k, hk, ek⟩, j, hj, ej⟩, k, j, ek, ej, hk, hj, Or.inl ⟨rfl, rfl, fun h => h c_39⟩⟩, zMT_0 hT _, rfl⟩ dX8_addPeering_67
    · skip
      have hzq : ¬ (zix f (vN V).length ∧ zix t (vN V).length) := fun h => by
        have h9 := (zb_0 _).mp c_30
        rw [hq.mpr h] at h9; cases h9
      refine lv_iconst (v := nI 1) hx hb dX8_addPeering_33 rfl ?_
      refine lv_goto (tgt := 60) hx hb dX8_addPeering_34 (by decide) ?_
      refine z_goe hw.2 (z_runV Cx hw (c_X8_holds E l X C y ad sc g _) (cwV 1 Cx.1.2.2.2.2 gX8_addPeering_X8_holds rfl rfl rfl (by decide +kernel) ⟨Nat.le_of_ble_eq_true rfl, Nat.le_of_ble_eq_true rfl⟩) (z_recv Cx hw (r := (RX8, TX8, 26)) zM_x rfl) rfl hl.1 rfl (Nat.le_of_ble_eq_true rfl) dX8_addPeering_60 ⟨Nat.le_of_ble_eq_true rfl, Nat.le_of_ble_eq_true rfl⟩) (fun H locs hw => ?_)
      refine lv_if_ne (tgt := 68) hx hb dX8_addPeering_63 (by decide) (fun c_63 => ?_) (fun c_63 => ?_)
      · skip
        exact absurd (by decide) c_63
      · skip
        refine lv_iconst (v := 0) hx hb dX8_addPeering_66 (by decide) ?_
        exact z_iret (wf := (fun (u : zU) => zQ E (X ++ zMw E y ad u.2.1 u.2.2.1) C)) Cx hr rfl (Nat.le_of_ble_eq_true rfl) (Nat.le_of_ble_eq_true rfl) (1, _, _, V) hw ⟨Or.inl ⟨rfl, rfl, hzq⟩, zMT_0 hT _, rfl⟩ dX8_addPeering_67
  refine lv_if_eq (tgt := 26) hx hb dX8_addPeering_8 (by decide) (fun c_8 => ?_) (fun c_8 => ?_)
  · skip
    have hzq1 : ¬ (zix f (vN V).length) := fun h => by
      have h9 := (zb_0 _).mp c_8
      rw [hq1.mpr h] at h9; cases h9
    refine lv_iconst (v := zb false) hx hb dX8_addPeering_26 rfl ?_
    refine lv_istore_n hx hb dX8_addPeering_27 rfl hl (by decide) rfl (fun ls hl => ?_)
    have hl : lv_has ls 4 [(3, .int (zb false)), (0, .ref y), (1, .int f), (2, .int t)] := hl
    exact cut_28 false H _ ls (iff_of_false Bool.false_ne_true (fun h => hzq1 h.1)) hw (lv_sub hl [1, 2, 3, 0] rfl)
  · skip
    have hzq1 := hq1.mp ((zb_1 _).mp c_8)
    refine lv_iload_n hx hb dX8_addPeering_11 rfl (lv_at hl 2 rfl) ?_
    refine lv_aload_n hx hb dX8_addPeering_12 rfl (lv_at hl 0 rfl) ?_
    refine z_get Cx hw (T := TX8) (N := 26) (ci := 11) (fun _ h => List.mem_cons_of_mem _ (List.mem_append_right _ (h))) zM_x rfl 1 (by decide) (List.mem_of_getElem? (i := 1) rfl) rfl rfl dX8_addPeering_13 ?_
    refine z_goe hw.2 (z_runS Cx hw (c_X8_isIn E l (zQ E (X ++ zMw E y ad sc g) C) t (sc 1)) (va_cwS 2 Cx.1.2.2.2.2 gX8_addPeering_X8_isIn rfl rfl rfl (by decide +kernel) ⟨Nat.le_of_ble_eq_true rfl, Nat.le_of_ble_eq_true rfl⟩)  rfl hl.1 rfl (Nat.le_of_ble_eq_true rfl) dX8_addPeering_16 ⟨Nat.le_of_ble_eq_true rfl, Nat.le_of_ble_eq_true rfl⟩) (fun H locs hw => ?_)
    refine lv_topi (fun x_16 ex_16 => ?_)
    obtain ⟨q2, hq2, e_16⟩ : ∃ q : Bool, (q = true ↔ zix t (vN V).length) ∧ x_16 = zb q := ⟨_, (by rw [hn1]; exact zmin_ix (by omega)), ex_16⟩
    clear ex_16
    subst e_16
    refine lv_if_eq (tgt := 26) hx hb dX8_addPeering_19 (by decide) (fun c_19 => ?_) (fun c_19 => ?_)
    · skip
      have hzq2 : ¬ (zix t (vN V).length) := fun h => by
        have h9 := (zb_0 _).mp c_19
        rw [hq2.mpr h] at h9; cases h9
      refine lv_iconst (v := zb false) hx hb dX8_addPeering_26 rfl ?_
      refine lv_istore_n hx hb dX8_addPeering_27 rfl hl (by decide) rfl (fun ls hl => ?_)
      have hl : lv_has ls 4 [(3, .int (zb false)), (0, .ref y), (1, .int f), (2, .int t)] := hl
      exact cut_28 false H _ ls (iff_of_false Bool.false_ne_true (fun h => hzq2 h.2)) hw (lv_sub hl [1, 2, 3, 0] rfl)
    · skip
      have hzq2 := hq2.mp ((zb_1 _).mp c_19)
      refine lv_iconst (v := zb true) hx hb dX8_addPeering_22 rfl ?_
      refine lv_goto (tgt := 27) hx hb dX8_addPeering_23 (by decide) ?_
      refine lv_istore_n hx hb dX8_addPeering_27 rfl hl (by decide) rfl (fun ls hl => ?_)
      have hl : lv_has ls 4 [(3, .int (zb true)), (0, .ref y), (1, .int f), (2, .int t)] := hl
      exact cut_28 true H _ ls (iff_of_true rfl ⟨hzq1, hzq2⟩) hw (lv_sub hl [1, 2, 3, 0] rfl)

set_option maxRecDepth 100000 in
set_option maxHeartbeats 4000000 in
/-- addGroup -/
theorem c_m_addGroup (E : zG) (l : Launch) (X : va_W) (C : zLs) (y : Nat) (ad : Nat → Nat) (sc : Nat → Int32) (g : Nat → Nat → Int32) (V : zCl) (hT : zMT sc g V) (hI : zInv V)  : Met l yX8_addGroup wsX8_addGroup (zR 3 0 0) (zPre E [.ref y] (zQ E (X ++ zMw E y ad sc g) C)) (zPm E X C y ad (zA_addGroup V)) 0 0 (eA E) := by
  refine z_of (cc := cX8_addGroup) (maxL := 1) (ret := (some .int)) (by decide) rfl rfl (Nat.le_of_ble_eq_true rfl) ?_
  intro p e s m below meth c ls Cx hr hnm hw hl
  have hx := Cx.1.1
  have hb := Cx.1.2.1
  have hR := hT.1
  have hn1 : sc 1 = nI (vN V).length := hR.1.1
  have hm1 := hR.1.2.1
  have hn3 : sc 3 = nI (vS V).length := hR.2.1.1
  have hm3 := hR.2.1.2.1
  have hn6 : sc 6 = nI (vH V).length := hR.2.2.1.1
  have hm6 := hR.2.2.1.2.1
  have hn10 : sc 10 = nI (vP V).length := hR.2.2.2.1.1
  have hm10 := hR.2.2.2.1.2.1
  have hn13 : sc 13 = nI (vG V).length := hR.2.2.2.2.1
  have hm13 := hR.2.2.2.2.2.1
  have hl : lv_has ls 1 [(0, .ref y)] := hl
  refine lv_aload_n hx hb dX8_addGroup_0 rfl (lv_at hl 0 rfl) ?_
  refine lv_aload_n hx hb dX8_addGroup_1 rfl (lv_at hl 0 rfl) ?_
  refine z_get Cx hw (T := TX8) (N := 26) (ci := 11) (fun _ h => List.mem_cons_of_mem _ (List.mem_append_right _ (h))) zM_x rfl 13 (by decide) (List.mem_of_getElem? (i := 1) rfl) rfl rfl dX8_addGroup_2 ?_
  refine lv_topi (fun x_2 ex_2 => ?_)
  have e_2 : x_2 = nI (vG V).length := ex_2.trans hn13
  clear ex_2
  subst e_2
  refine lv_bipush (v := nI 6) hx hb dX8_addGroup_5 rfl ?_
  refine lv_icmp_ne (tgt := 14) hx hb dX8_addGroup_7 (by decide) (fun c_7 => ?_) (fun c_7 => ?_)
  · skip
    have hcd : (vG V).length < 6 := by
      have h9 : ¬ (vG V).length = 6 := fun h => c_7 (by rw [h])
      omega
    refine lv_iconst (v := nI 0) hx hb dX8_addGroup_14 rfl ?_
    refine z_goe hw.2 (z_runV Cx hw (c_X8_holds E l X C y ad sc g _) (cwV 1 Cx.1.2.2.2.2 gX8_addGroup_X8_holds rfl rfl rfl (by decide +kernel) ⟨Nat.le_of_ble_eq_true rfl, Nat.le_of_ble_eq_true rfl⟩) (z_recv Cx hw (r := (RX8, TX8, 26)) zM_x rfl) rfl hl.1 rfl (Nat.le_of_ble_eq_true rfl) dX8_addGroup_15 ⟨Nat.le_of_ble_eq_true rfl, Nat.le_of_ble_eq_true rfl⟩) (fun H locs hw => ?_)
    refine lv_if_ne (tgt := 23) hx hb dX8_addGroup_18 (by decide) (fun c_18 => ?_) (fun c_18 => ?_)
    · skip
      refine lv_aload_n hx hb dX8_addGroup_23 rfl (lv_at hl 0 rfl) ?_
      refine lv_dup hx hb dX8_addGroup_24 rfl ?_
      refine z_get Cx hw (T := TX8) (N := 26) (ci := 11) (fun _ h => List.mem_cons_of_mem _ (List.mem_append_right _ (h))) zM_x rfl 13 (by decide) (List.mem_of_getElem? (i := 1) rfl) rfl rfl dX8_addGroup_25 ?_
      refine lv_topi (fun x_25 ex_25 => ?_)
      have e_25 : x_25 = nI (vG V).length := ex_25.trans hn13
      clear ex_25
      subst e_25
      refine lv_iconst (v := 1) hx hb dX8_addGroup_28 (by decide) ?_
      refine lv_iadd hx hb dX8_addGroup_29 ?_
      rw [show nI (vG V).length + 1 = nI ((vG V).length + 1) from nI_1 _]
      refine z_put Cx (X := X) hw (T := TX8) (N := 26) (ci := 11) (ty := .int) (fun _ h => List.mem_cons_of_mem _ (List.mem_append_right _ (h))) tyX8 tyX8_ok nmX8 zM_o rfl 13 (by decide) (List.mem_of_getElem? (i := 1) rfl) rfl rfl (by decide +kernel) rfl rfl (Nat.le_of_ble_eq_true rfl) dX8_addGroup_30 (fun H locs hw2 => ?_)
      have hw := zM_putS 13 (nI ((vG V).length + 1)) hw hw2 rfl
      refine lv_aload_n hx hb dX8_addGroup_33 rfl (lv_at hl 0 rfl) ?_
      refine z_get Cx hw (T := TX8) (N := 26) (ci := 11) (fun _ h => List.mem_cons_of_mem _ (List.mem_append_right _ (h))) zM_x rfl 13 (by decide) (List.mem_of_getElem? (i := 1) rfl) rfl rfl dX8_addGroup_34 ?_
      refine lv_iconst (v := 1) hx hb dX8_addGroup_37 (by decide) ?_
      refine lv_isub hx hb dX8_addGroup_38 ?_
      exact z_iret (wf := (fun (u : zU) => zQ E (X ++ zMw E y ad u.2.1 u.2.2.1) C)) Cx hr rfl (Nat.le_of_ble_eq_true rfl) (Nat.le_of_ble_eq_true rfl) (0, _, _, _) hw ⟨Or.inr ⟨hcd, rfl, rfl, nI_pred _⟩, zMT_addG (zMT_0 hT _) hcd, rfl⟩ dX8_addGroup_39
    · skip
      exact absurd c_18 (by decide)
  · skip
    have hcd : ¬ (vG V).length < 6 := by
      have h9 := (nI_eq (a := (vG V).length) (b := 6) (by omega) (by omega)).mp c_7
      omega
    refine lv_iconst (v := nI 1) hx hb dX8_addGroup_10 rfl ?_
    refine lv_goto (tgt := 15) hx hb dX8_addGroup_11 (by decide) ?_
    refine z_goe hw.2 (z_runV Cx hw (c_X8_holds E l X C y ad sc g _) (cwV 1 Cx.1.2.2.2.2 gX8_addGroup_X8_holds rfl rfl rfl (by decide +kernel) ⟨Nat.le_of_ble_eq_true rfl, Nat.le_of_ble_eq_true rfl⟩) (z_recv Cx hw (r := (RX8, TX8, 26)) zM_x rfl) rfl hl.1 rfl (Nat.le_of_ble_eq_true rfl) dX8_addGroup_15 ⟨Nat.le_of_ble_eq_true rfl, Nat.le_of_ble_eq_true rfl⟩) (fun H locs hw => ?_)
    refine lv_if_ne (tgt := 23) hx hb dX8_addGroup_18 (by decide) (fun c_18 => ?_) (fun c_18 => ?_)
    · skip
      exact absurd (by decide) c_18
    · skip
      refine lv_iconst (v := 0) hx hb dX8_addGroup_21 (by decide) ?_
      exact z_iret (wf := (fun (u : zU) => zQ E (X ++ zMw E y ad u.2.1 u.2.2.1) C)) Cx hr rfl (Nat.le_of_ble_eq_true rfl) (Nat.le_of_ble_eq_true rfl) (1, _, _, V) hw ⟨Or.inl ⟨rfl, rfl, hcd⟩, zMT_0 hT _, rfl⟩ dX8_addGroup_22

set_option maxRecDepth 100000 in
set_option maxHeartbeats 4000000 in
/-- clearGroup -/
theorem c_m_clearGroup (E : zG) (l : Launch) (X : va_W) (C : zLs) (y : Nat) (ad : Nat → Nat) (sc : Nat → Int32) (g : Nat → Nat → Int32) (V : zCl) (hT : zMT sc g V) (hI : zInv V) (gr : Int32) : Met l yX8_clearGroup wsX8_clearGroup (zR 3 0 0) (zPre E [.ref y, .int gr] (zQ E (X ++ zMw E y ad sc g) C)) (zPm E X C y ad (zA_clearGroup V gr)) 0 0 (eA E) := by
  refine z_of (cc := cX8_clearGroup) (maxL := 3) (ret := (some .int)) (by decide) rfl rfl (Nat.le_of_ble_eq_true rfl) ?_
  intro p e s m below meth c ls Cx hr hnm hw hl
  have hx := Cx.1.1
  have hb := Cx.1.2.1
  have hR := hT.1
  have hn1 : sc 1 = nI (vN V).length := hR.1.1
  have hm1 := hR.1.2.1
  have hn3 : sc 3 = nI (vS V).length := hR.2.1.1
  have hm3 := hR.2.1.2.1
  have hn6 : sc 6 = nI (vH V).length := hR.2.2.1.1
  have hm6 := hR.2.2.1.2.1
  have hn10 : sc 10 = nI (vP V).length := hR.2.2.2.1.1
  have hm10 := hR.2.2.2.1.2.1
  have hn13 : sc 13 = nI (vG V).length := hR.2.2.2.2.1
  have hm13 := hR.2.2.2.2.2.1
  have hl : lv_has ls 3 [(0, .ref y), (1, .int gr)] := hl
  refine lv_aload_n hx hb dX8_clearGroup_0 rfl (lv_at hl 0 rfl) ?_
  refine lv_iload_n hx hb dX8_clearGroup_1 rfl (lv_at hl 1 rfl) ?_
  refine lv_aload_n hx hb dX8_clearGroup_2 rfl (lv_at hl 0 rfl) ?_
  refine z_get Cx hw (T := TX8) (N := 26) (ci := 11) (fun _ h => List.mem_cons_of_mem _ (List.mem_append_right _ (h))) zM_x rfl 13 (by decide) (List.mem_of_getElem? (i := 1) rfl) rfl rfl dX8_clearGroup_3 ?_
  refine z_goe hw.2 (z_runS Cx hw (c_X8_isIn E l (zQ E (X ++ zMw E y ad sc g) C) gr (sc 13)) (va_cwS 2 Cx.1.2.2.2.2 gX8_clearGroup_X8_isIn rfl rfl rfl (by decide +kernel) ⟨Nat.le_of_ble_eq_true rfl, Nat.le_of_ble_eq_true rfl⟩)  rfl hl.1 rfl (Nat.le_of_ble_eq_true rfl) dX8_clearGroup_6 ⟨Nat.le_of_ble_eq_true rfl, Nat.le_of_ble_eq_true rfl⟩) (fun H locs hw => ?_)
  refine lv_topi (fun x_6 ex_6 => ?_)
  obtain ⟨q1, hq1, e_6⟩ : ∃ q : Bool, (q = true ↔ zix gr (vG V).length) ∧ x_6 = zb q := ⟨_, (by rw [hn13]; exact zmin_ix (by omega)), ex_6⟩
  clear ex_6
  subst e_6
  refine lv_if_eq (tgt := 16) hx hb dX8_clearGroup_9 (by decide) (fun c_9 => ?_) (fun c_9 => ?_)
  · skip
    have hzq1 : ¬ (zix gr (vG V).length) := fun h => by
      have h9 := (zb_0 _).mp c_9
      rw [hq1.mpr h] at h9; cases h9
    refine lv_iconst (v := nI 1) hx hb dX8_clearGroup_16 rfl ?_
    refine z_goe hw.2 (z_runV Cx hw (c_X8_holds E l X C y ad sc g _) (cwV 1 Cx.1.2.2.2.2 gX8_clearGroup_X8_holds rfl rfl rfl (by decide +kernel) ⟨Nat.le_of_ble_eq_true rfl, Nat.le_of_ble_eq_true rfl⟩) (z_recv Cx hw (r := (RX8, TX8, 26)) zM_x rfl) rfl hl.1 rfl (Nat.le_of_ble_eq_true rfl) dX8_clearGroup_17 ⟨Nat.le_of_ble_eq_true rfl, Nat.le_of_ble_eq_true rfl⟩) (fun H locs hw => ?_)
    refine lv_if_ne (tgt := 25) hx hb dX8_clearGroup_20 (by decide) (fun c_20 => ?_) (fun c_20 => ?_)
    · skip
      exact absurd (by decide) c_20
    · skip
      refine lv_iconst (v := 0) hx hb dX8_clearGroup_23 (by decide) ?_
      exact z_iret (wf := (fun (u : zU) => zQ E (X ++ zMw E y ad u.2.1 u.2.2.1) C)) Cx hr rfl (Nat.le_of_ble_eq_true rfl) (Nat.le_of_ble_eq_true rfl) (1, _, _, V) hw ⟨Or.inl ⟨rfl, rfl, hzq1⟩, zMT_0 hT _, rfl⟩ dX8_clearGroup_24
  · skip
    have hzq1 := hq1.mp ((zb_1 _).mp c_9)
    obtain ⟨k, hk, rfl⟩ := hzq1
    obtain ⟨v, hv⟩ : ∃ v, (vG V)[k]? = some v := ⟨_, List.getElem?_eq_getElem hk⟩
    obtain ⟨hsz, hle, hru⟩ := hR.2.2.2.2.2.2 k v hv
    have hk6 : k < 6 := by omega
    refine lv_iconst (v := nI 0) hx hb dX8_clearGroup_12 rfl ?_
    refine lv_goto (tgt := 17) hx hb dX8_clearGroup_13 (by decide) ?_
    refine z_goe hw.2 (z_runV Cx hw (c_X8_holds E l X C y ad sc g _) (cwV 1 Cx.1.2.2.2.2 gX8_clearGroup_X8_holds rfl rfl rfl (by decide +kernel) ⟨Nat.le_of_ble_eq_true rfl, Nat.le_of_ble_eq_true rfl⟩) (z_recv Cx hw (r := (RX8, TX8, 26)) zM_x rfl) rfl hl.1 rfl (Nat.le_of_ble_eq_true rfl) dX8_clearGroup_17 ⟨Nat.le_of_ble_eq_true rfl, Nat.le_of_ble_eq_true rfl⟩) (fun H locs hw => ?_)
    refine lv_if_ne (tgt := 25) hx hb dX8_clearGroup_20 (by decide) (fun c_20 => ?_) (fun c_20 => ?_)
    · skip
      refine lv_aload_n hx hb dX8_clearGroup_25 rfl (lv_at hl 0 rfl) ?_
      refine z_get Cx hw (T := TX8) (N := 26) (ci := 11) (fun _ h => List.mem_cons_of_mem _ (List.mem_append_right _ (h))) zM_x rfl 14 (by decide) (List.mem_of_getElem? (i := 2) rfl) rfl rfl dX8_clearGroup_26 ?_
      refine lv_iload_n hx hb dX8_clearGroup_29 rfl (lv_at hl 1 rfl) ?_
      refine zm_iald Cx hw (k := 14) (n := 6) (by decide) hk6 dX8_clearGroup_30 ?_
      refine lv_topi (fun x_30 ex_30 => ?_)
      have e_30 := ex_30.trans (hsz)
      clear ex_30
      subst e_30
      refine lv_istore_n hx hb dX8_clearGroup_31 rfl hl (by decide) rfl (fun ls hl => ?_)
      have hl : lv_has ls 3 [(2, .int (nI v.length)), (0, .ref y), (1, .int (nI k))] := hl
      refine lv_aload_n hx hb dX8_clearGroup_32 rfl (lv_at hl 1 rfl) ?_
      refine z_get Cx hw (T := TX8) (N := 26) (ci := 11) (fun _ h => List.mem_cons_of_mem _ (List.mem_append_right _ (h))) zM_x rfl 14 (by decide) (List.mem_of_getElem? (i := 2) rfl) rfl rfl dX8_clearGroup_33 ?_
      refine lv_iload_n hx hb dX8_clearGroup_36 rfl (lv_at hl 2 rfl) ?_
      refine lv_iconst (v := nI 0) hx hb dX8_clearGroup_37 rfl ?_
      refine zm_iast Cx hw (k := 14) (n := 6) (by decide) hk6 dX8_clearGroup_38 (fun H locs hw => ?_)
      refine lv_iload_n hx hb dX8_clearGroup_39 rfl (lv_at hl 0 rfl) ?_
      exact z_iret (wf := (fun (u : zU) => zQ E (X ++ zMw E y ad u.2.1 u.2.2.1) C)) Cx hr rfl (Nat.le_of_ble_eq_true rfl) (Nat.le_of_ble_eq_true rfl) (0, _, _, _) hw ⟨Or.inr ⟨⟨k, hk, rfl⟩, k, v, rfl, hv, rfl, rfl, rfl⟩, zMT_clear (zMT_0 hT _) hk, rfl⟩ dX8_clearGroup_40
    · skip
      exact absurd c_20 (by decide)

set_option maxRecDepth 100000 in
set_option maxHeartbeats 4000000 in
/-- allow -/
theorem c_m_allow (E : zG) (l : Launch) (X : va_W) (C : zLs) (y : Nat) (ad : Nat → Nat) (sc : Nat → Int32) (g : Nat → Nat → Int32) (V : zCl) (hT : zMT sc g V) (hI : zInv V) (gr : Int32) (i : Bool) (b z fp la : Int32) : Met l yX8_allow wsX8_allow (zR 3 0 0) (zPre E [.ref y, .int gr, .int (zb i), .int b, .int z, .int fp, .int la] (zQ E (X ++ zMw E y ad sc g) C)) (zPm E X C y ad (zA_allow V gr i b z fp la)) 0 0 (eA E) := by
  refine z_of (cc := cX8_allow) (maxL := 10) (ret := (some .int)) (by decide) rfl rfl (Nat.le_of_ble_eq_true rfl) ?_
  intro p e s m below meth c ls Cx hr hnm hw hl
  have hx := Cx.1.1
  have hb := Cx.1.2.1
  have hR := hT.1
  have hn1 : sc 1 = nI (vN V).length := hR.1.1
  have hm1 := hR.1.2.1
  have hn3 : sc 3 = nI (vS V).length := hR.2.1.1
  have hm3 := hR.2.1.2.1
  have hn6 : sc 6 = nI (vH V).length := hR.2.2.1.1
  have hm6 := hR.2.2.1.2.1
  have hn10 : sc 10 = nI (vP V).length := hR.2.2.2.1.1
  have hm10 := hR.2.2.2.1.2.1
  have hn13 : sc 13 = nI (vG V).length := hR.2.2.2.2.1
  have hm13 := hR.2.2.2.2.2.1
  have hl : lv_has ls 10 [(0, .ref y), (1, .int gr), (2, .int (zb i)), (3, .int b), (4, .int z), (5, .int fp), (6, .int la)] := hl
  refine lv_iload_n hx hb dX8_allow_0 rfl (lv_at hl 1 rfl) ?_
  refine lv_aload_n hx hb dX8_allow_1 rfl (lv_at hl 0 rfl) ?_
  refine z_get Cx hw (T := TX8) (N := 26) (ci := 11) (fun _ h => List.mem_cons_of_mem _ (List.mem_append_right _ (h))) zM_x rfl 13 (by decide) (List.mem_of_getElem? (i := 1) rfl) rfl rfl dX8_allow_2 ?_
  refine z_goe hw.2 (z_runS Cx hw (c_X8_isIn E l (zQ E (X ++ zMw E y ad sc g) C) gr (sc 13)) (va_cwS 2 Cx.1.2.2.2.2 gX8_allow_X8_isIn rfl rfl rfl (by decide +kernel) ⟨Nat.le_of_ble_eq_true rfl, Nat.le_of_ble_eq_true rfl⟩)  rfl hl.1 rfl (Nat.le_of_ble_eq_true rfl) dX8_allow_5 ⟨Nat.le_of_ble_eq_true rfl, Nat.le_of_ble_eq_true rfl⟩) (fun H locs hw => ?_)
  refine lv_topi (fun x_5 ex_5 => ?_)
  obtain ⟨q1, hq1, e_5⟩ : ∃ q : Bool, (q = true ↔ zix gr (vG V).length) ∧ x_5 = zb q := ⟨_, (by rw [hn13]; exact zmin_ix (by omega)), ex_5⟩
  clear ex_5
  subst e_5
  refine lv_istore hx hb dX8_allow_8 hl (by decide) rfl (fun ls hl => ?_)
  have hl : lv_has ls 10 [(7, .int (zb q1)), (0, .ref y), (1, .int gr), (2, .int (zb i)), (3, .int b), (4, .int z), (5, .int fp), (6, .int la)] := hl
  refine lv_iload_n hx hb dX8_allow_10 rfl (lv_at hl 4 rfl) ?_
  refine lv_iload hx hb dX8_allow_11 (lv_at hl 5 rfl) ?_
  refine z_goe hw.2 (z_runS Cx hw (c_X8_isBlock E l (zQ E (X ++ zMw E y ad sc g) C) b z) (va_cwS 2 Cx.1.2.2.2.2 gX8_allow_X8_isBlock rfl rfl rfl (by decide +kernel) ⟨Nat.le_of_ble_eq_true rfl, Nat.le_of_ble_eq_true rfl⟩)  rfl hl.1 rfl (Nat.le_of_ble_eq_true rfl) dX8_allow_13 ⟨Nat.le_of_ble_eq_true rfl, Nat.le_of_ble_eq_true rfl⟩) (fun H locs hw => ?_)
  refine lv_topi (fun x_13 ex_13 => ?_)
  obtain ⟨q3, hq3, e_13⟩ : ∃ q : Bool, (q = true ↔ zbok b z) ∧ x_13 = zb q := ⟨_, (by rw [decide_eq_true_iff]; exact zmblk_iff b z), ex_13⟩
  clear ex_13
  subst e_13
  have cut_36 : ∀ (q2 : Bool) (H : Heap) (locs : List Loc) (ls : Array Slot), (q2 = true ↔ (zbok b z ∧ zpok fp la)) → zHw E (zQ E (X ++ zMw E y ad sc g) C) s H locs → lv_has ls 10 [(0, .ref y), (1, .int gr), (2, .int (zb i)), (3, .int b), (4, .int z), (5, .int fp), (6, .int la), (7, .int (zb q1)), (8, .int (zb q2))] → W p l e (zR 3 0 0) s m ([.ref y, .int gr, .int (zb i), .int b, .int z, .int fp, .int la] : List Value).toArray below meth c H locs 0 0 (MQ below (zPm E X C y ad (zA_allow V gr i b z fp la)) ([.ref y, .int gr, .int (zb i), .int b, .int z, .int fp, .int la] : List Value).toArray s 0 0 (eA E)) (F0 m 36 ls []) := by
    intro q2 H locs ls hq2 hw hl
    refine lv_aload_n hx hb dX8_allow_36 rfl (lv_at hl 0 rfl) ?_
    refine lv_iload hx hb dX8_allow_37 (lv_at hl 7 rfl) ?_
    refine lv_if_ne (tgt := 46) hx hb dX8_allow_39 (by decide) (fun c_39 => ?_) (fun c_39 => ?_)
    · skip
      have hzq1 := hq1.mp ((zb_1 _).mp c_39)
      obtain ⟨k, hk, rfl⟩ := hzq1
      obtain ⟨v, hv⟩ : ∃ v, (vG V)[k]? = some v := ⟨_, List.getElem?_eq_getElem hk⟩
      obtain ⟨hsz, hle, hru⟩ := hR.2.2.2.2.2.2 k v hv
      have hk6 : k < 6 := by omega
      refine lv_iload hx hb dX8_allow_46 (lv_at hl 8 rfl) ?_
      refine lv_if_ne (tgt := 55) hx hb dX8_allow_48 (by decide) (fun c_48 => ?_) (fun c_48 => ?_)
      · skip
        have hzq2 := hq2.mp ((zb_1 _).mp c_48)
        refine lv_aload_n hx hb dX8_allow_55 rfl (lv_at hl 0 rfl) ?_
        refine z_get Cx hw (T := TX8) (N := 26) (ci := 11) (fun _ h => List.mem_cons_of_mem _ (List.mem_append_right _ (h))) zM_x rfl 14 (by decide) (List.mem_of_getElem? (i := 2) rfl) rfl rfl dX8_allow_56 ?_
        refine lv_iload_n hx hb dX8_allow_59 rfl (lv_at hl 1 rfl) ?_
        refine zm_iald Cx hw (k := 14) (n := 6) (by decide) hk6 dX8_allow_60 ?_
        refine lv_topi (fun x_60 ex_60 => ?_)
        have e_60 := ex_60.trans (hsz)
        clear ex_60
        subst e_60
        refine lv_bipush (v := nI 10) hx hb dX8_allow_61 rfl ?_
        refine lv_icmp_ne (tgt := 70) hx hb dX8_allow_63 (by decide) (fun c_63 => ?_) (fun c_63 => ?_)
        · skip
          have hcd : v.length < 10 := by
            have h9 : ¬ v.length = 10 := fun h => c_63 (by rw [h])
            omega
          refine lv_iconst (v := nI 0) hx hb dX8_allow_70 rfl ?_
          refine z_goe hw.2 (z_runV Cx hw (c_X8_holds E l X C y ad sc g _) (cwV 1 Cx.1.2.2.2.2 gX8_allow_X8_holds rfl rfl rfl (by decide +kernel) ⟨Nat.le_of_ble_eq_true rfl, Nat.le_of_ble_eq_true rfl⟩) (z_recv Cx hw (r := (RX8, TX8, 26)) zM_x rfl) rfl hl.1 rfl (Nat.le_of_ble_eq_true rfl) dX8_allow_71 ⟨Nat.le_of_ble_eq_true rfl, Nat.le_of_ble_eq_true rfl⟩) (fun H locs hw => ?_)
          refine lv_if_ne (tgt := 79) hx hb dX8_allow_74 (by decide) (fun c_74 => ?_) (fun c_74 => ?_)
          · skip
            refine lv_bipush (v := nI 10) hx hb dX8_allow_79 rfl ?_
            refine lv_iload_n hx hb dX8_allow_81 rfl (lv_at hl 1 rfl) ?_
            refine lv_imul hx hb dX8_allow_82 ?_
            refine lv_topi (fun x_82 ex_82 => ?_)
            rw [zi_mul] at ex_82
            subst ex_82
            refine lv_aload_n hx hb dX8_allow_83 rfl (lv_at hl 0 rfl) ?_
            refine z_get Cx hw (T := TX8) (N := 26) (ci := 11) (fun _ h => List.mem_cons_of_mem _ (List.mem_append_right _ (h))) zM_x rfl 14 (by decide) (List.mem_of_getElem? (i := 2) rfl) rfl rfl dX8_allow_84 ?_
            refine lv_iload_n hx hb dX8_allow_87 rfl (lv_at hl 1 rfl) ?_
            refine zm_iald Cx hw (k := 14) (n := 6) (by decide) hk6 dX8_allow_88 ?_
            refine lv_topi (fun x_88 ex_88 => ?_)
            have e_88 := ex_88.trans (hsz)
            clear ex_88
            subst e_88
            refine lv_iadd hx hb dX8_allow_89 ?_
            refine lv_topi (fun x_89 ex_89 => ?_)
            rw [nI_add] at ex_89
            subst ex_89
            refine lv_istore hx hb dX8_allow_90 hl (by decide) rfl (fun ls hl => ?_)
            have hl : lv_has ls 10 [(9, .int (nI (10 * k + v.length))), (0, .ref y), (1, .int (nI k)), (2, .int (zb i)), (3, .int b), (4, .int z), (5, .int fp), (6, .int la), (7, .int (zb q1)), (8, .int (zb q2))] := hl
            refine lv_aload_n hx hb dX8_allow_92 rfl (lv_at hl 1 rfl) ?_
            refine z_get Cx hw (T := TX8) (N := 26) (ci := 11) (fun _ h => List.mem_cons_of_mem _ (List.mem_append_right _ (h))) zM_x rfl 15 (by decide) (List.mem_of_getElem? (i := 3) rfl) rfl rfl dX8_allow_93 ?_
            refine lv_iload hx hb dX8_allow_96 (lv_at hl 0 rfl) ?_
            refine lv_iload_n hx hb dX8_allow_98 rfl (lv_at hl 3 rfl) ?_
            refine zm_zast Cx hw (k := 15) (n := 60) (by decide) (by omega) (zn_b i) dX8_allow_99 (fun H locs hw => ?_)
            refine lv_aload_n hx hb dX8_allow_100 rfl (lv_at hl 1 rfl) ?_
            refine z_get Cx hw (T := TX8) (N := 26) (ci := 11) (fun _ h => List.mem_cons_of_mem _ (List.mem_append_right _ (h))) zM_x rfl 16 (by decide) (List.mem_of_getElem? (i := 4) rfl) rfl rfl dX8_allow_101 ?_
            refine lv_iload hx hb dX8_allow_104 (lv_at hl 0 rfl) ?_
            refine lv_iload_n hx hb dX8_allow_106 rfl (lv_at hl 4 rfl) ?_
            refine lv_iload hx hb dX8_allow_107 (lv_at hl 5 rfl) ?_
            refine z_goe hw.2 (z_runS Cx hw (c_X8_block E l _ b z) (va_cwS 2 Cx.1.2.2.2.2 gX8_allow_X8_block rfl rfl rfl (by decide +kernel) ⟨Nat.le_of_ble_eq_true rfl, Nat.le_of_ble_eq_true rfl⟩)  rfl hl.1 rfl (Nat.le_of_ble_eq_true rfl) dX8_allow_109 ⟨Nat.le_of_ble_eq_true rfl, Nat.le_of_ble_eq_true rfl⟩) (fun H locs hw => ?_)
            rw [show (16 : Int32) * b + z = zbi (b, z) from rfl]
            refine zm_iast Cx hw (k := 16) (n := 60) (by decide) (by omega) dX8_allow_112 (fun H locs hw => ?_)
            refine lv_aload_n hx hb dX8_allow_113 rfl (lv_at hl 1 rfl) ?_
            refine z_get Cx hw (T := TX8) (N := 26) (ci := 11) (fun _ h => List.mem_cons_of_mem _ (List.mem_append_right _ (h))) zM_x rfl 17 (by decide) (List.mem_of_getElem? (i := 5) rfl) rfl rfl dX8_allow_114 ?_
            refine lv_iload hx hb dX8_allow_117 (lv_at hl 0 rfl) ?_
            refine lv_iload hx hb dX8_allow_119 (lv_at hl 6 rfl) ?_
            refine lv_iload hx hb dX8_allow_121 (lv_at hl 7 rfl) ?_
            refine z_goe hw.2 (z_runS Cx hw (c_X8_portSet E l _ fp la) (va_cwS 2 Cx.1.2.2.2.2 gX8_allow_X8_portSet rfl rfl rfl (by decide +kernel) ⟨Nat.le_of_ble_eq_true rfl, Nat.le_of_ble_eq_true rfl⟩)  rfl hl.1 rfl (Nat.le_of_ble_eq_true rfl) dX8_allow_123 ⟨Nat.le_of_ble_eq_true rfl, Nat.le_of_ble_eq_true rfl⟩) (fun H locs hw => ?_)
            refine zm_iast Cx hw (k := 17) (n := 60) (by decide) (by omega) dX8_allow_126 (fun H locs hw => ?_)
            refine lv_aload_n hx hb dX8_allow_127 rfl (lv_at hl 1 rfl) ?_
            refine z_get Cx hw (T := TX8) (N := 26) (ci := 11) (fun _ h => List.mem_cons_of_mem _ (List.mem_append_right _ (h))) zM_x rfl 14 (by decide) (List.mem_of_getElem? (i := 2) rfl) rfl rfl dX8_allow_128 ?_
            refine lv_iload_n hx hb dX8_allow_131 rfl (lv_at hl 2 rfl) ?_
            refine lv_dup2_11 hx hb dX8_allow_132 rfl rfl ?_
            refine zm_iald Cx hw (k := 14) (n := 6) (by decide) hk6 dX8_allow_133 ?_
            refine lv_topi (fun x_133 ex_133 => ?_)
            have e_133 := ex_133.trans (hsz)
            clear ex_133
            subst e_133
            refine lv_iconst (v := 1) hx hb dX8_allow_134 (by decide) ?_
            refine lv_iadd hx hb dX8_allow_135 ?_
            rw [show nI v.length + 1 = nI (v.length + 1) from nI_1 _]
            refine zm_iast Cx hw (k := 14) (n := 6) (by decide) hk6 dX8_allow_136 (fun H locs hw => ?_)
            refine lv_aload_n hx hb dX8_allow_137 rfl (lv_at hl 1 rfl) ?_
            refine z_get Cx hw (T := TX8) (N := 26) (ci := 11) (fun _ h => List.mem_cons_of_mem _ (List.mem_append_right _ (h))) zM_x rfl 14 (by decide) (List.mem_of_getElem? (i := 2) rfl) rfl rfl dX8_allow_138 ?_
            refine lv_iload_n hx hb dX8_allow_141 rfl (lv_at hl 2 rfl) ?_
            refine zm_iald Cx hw (k := 14) (n := 6) (by decide) hk6 dX8_allow_142 ?_
            exact z_iret (wf := (fun (u : zU) => zQ E (X ++ zMw E y ad u.2.1 u.2.2.1) C)) Cx hr rfl (Nat.le_of_ble_eq_true rfl) (Nat.le_of_ble_eq_true rfl) (0, _, _, _) hw ⟨Or.inr ⟨⟨k, hk, rfl⟩, k, v, rfl, hv, Or.inr ⟨hzq2, Or.inr ⟨hcd, rfl, rfl, pk_us⟩⟩⟩, zMT_allow (zMT_0 hT _) hv hcd i (b, z) (zps fp la), rfl⟩ dX8_allow_143
          · skip
            exact absurd c_74 (by decide)
        · skip
          have hcd : ¬ v.length < 10 := by
            have h9 := (nI_eq (a := v.length) (b := 10) (by omega) (by omega)).mp c_63
            omega
          refine lv_iconst (v := nI 3) hx hb dX8_allow_66 rfl ?_
          refine lv_goto (tgt := 71) hx hb dX8_allow_67 (by decide) ?_
          refine z_goe hw.2 (z_runV Cx hw (c_X8_holds E l X C y ad sc g _) (cwV 1 Cx.1.2.2.2.2 gX8_allow_X8_holds rfl rfl rfl (by decide +kernel) ⟨Nat.le_of_ble_eq_true rfl, Nat.le_of_ble_eq_true rfl⟩) (z_recv Cx hw (r := (RX8, TX8, 26)) zM_x rfl) rfl hl.1 rfl (Nat.le_of_ble_eq_true rfl) dX8_allow_71 ⟨Nat.le_of_ble_eq_true rfl, Nat.le_of_ble_eq_true rfl⟩) (fun H locs hw => ?_)
          refine lv_if_ne (tgt := 79) hx hb dX8_allow_74 (by decide) (fun c_74 => ?_) (fun c_74 => ?_)
          · skip
            exact absurd (by decide) c_74
          · skip
            refine lv_iconst (v := 0) hx hb dX8_allow_77 (by decide) ?_
            exact z_iret (wf := (fun (u : zU) => zQ E (X ++ zMw E y ad u.2.1 u.2.2.1) C)) Cx hr rfl (Nat.le_of_ble_eq_true rfl) (Nat.le_of_ble_eq_true rfl) (3, _, _, V) hw ⟨Or.inr ⟨⟨k, hk, rfl⟩, k, v, rfl, hv, Or.inr ⟨hzq2, Or.inl ⟨rfl, rfl, hcd⟩⟩⟩, zMT_0 hT _, rfl⟩ dX8_allow_78
      · skip
        have hzq2 : ¬ (zbok b z ∧ zpok fp la) := fun h => by
          have h9 := (zb_0 _).mp c_48
          rw [hq2.mpr h] at h9; cases h9
        refine lv_iconst (v := nI 2) hx hb dX8_allow_51 rfl ?_
        refine lv_goto (tgt := 71) hx hb dX8_allow_52 (by decide) ?_
        refine z_goe hw.2 (z_runV Cx hw (c_X8_holds E l X C y ad sc g _) (cwV 1 Cx.1.2.2.2.2 gX8_allow_X8_holds rfl rfl rfl (by decide +kernel) ⟨Nat.le_of_ble_eq_true rfl, Nat.le_of_ble_eq_true rfl⟩) (z_recv Cx hw (r := (RX8, TX8, 26)) zM_x rfl) rfl hl.1 rfl (Nat.le_of_ble_eq_true rfl) dX8_allow_71 ⟨Nat.le_of_ble_eq_true rfl, Nat.le_of_ble_eq_true rfl⟩) (fun H locs hw => ?_)
        refine lv_if_ne (tgt := 79) hx hb dX8_allow_74 (by decide) (fun c_74 => ?_) (fun c_74 => ?_)
        · skip
          exact absurd (by decide) c_74
        · skip
          refine lv_iconst (v := 0) hx hb dX8_allow_77 (by decide) ?_
          exact z_iret (wf := (fun (u : zU) => zQ E (X ++ zMw E y ad u.2.1 u.2.2.1) C)) Cx hr rfl (Nat.le_of_ble_eq_true rfl) (Nat.le_of_ble_eq_true rfl) (2, _, _, V) hw ⟨Or.inr ⟨⟨k, hk, rfl⟩, k, v, rfl, hv, Or.inl ⟨rfl, rfl, hzq2⟩⟩, zMT_0 hT _, rfl⟩ dX8_allow_78
    · skip
      have hzq1 : ¬ (zix gr (vG V).length) := fun h => by
        have h9 := (zb_0 _).mp c_39
        rw [hq1.mpr h] at h9; cases h9
      refine lv_iconst (v := nI 1) hx hb dX8_allow_42 rfl ?_
      refine lv_goto (tgt := 71) hx hb dX8_allow_43 (by decide) ?_
      refine z_goe hw.2 (z_runV Cx hw (c_X8_holds E l X C y ad sc g _) (cwV 1 Cx.1.2.2.2.2 gX8_allow_X8_holds rfl rfl rfl (by decide +kernel) ⟨Nat.le_of_ble_eq_true rfl, Nat.le_of_ble_eq_true rfl⟩) (z_recv Cx hw (r := (RX8, TX8, 26)) zM_x rfl) rfl hl.1 rfl (Nat.le_of_ble_eq_true rfl) dX8_allow_71 ⟨Nat.le_of_ble_eq_true rfl, Nat.le_of_ble_eq_true rfl⟩) (fun H locs hw => ?_)
      refine lv_if_ne (tgt := 79) hx hb dX8_allow_74 (by decide) (fun c_74 => ?_) (fun c_74 => ?_)
      · skip
        exact absurd (by decide) c_74
      · skip
        refine lv_iconst (v := 0) hx hb dX8_allow_77 (by decide) ?_
        exact z_iret (wf := (fun (u : zU) => zQ E (X ++ zMw E y ad u.2.1 u.2.2.1) C)) Cx hr rfl (Nat.le_of_ble_eq_true rfl) (Nat.le_of_ble_eq_true rfl) (1, _, _, V) hw ⟨Or.inl ⟨rfl, rfl, hzq1⟩, zMT_0 hT _, rfl⟩ dX8_allow_78
  refine lv_if_eq (tgt := 33) hx hb dX8_allow_16 (by decide) (fun c_16 => ?_) (fun c_16 => ?_)
  · skip
    have hzq3 : ¬ (zbok b z) := fun h => by
      have h9 := (zb_0 _).mp c_16
      rw [hq3.mpr h] at h9; cases h9
    refine lv_iconst (v := zb false) hx hb dX8_allow_33 rfl ?_
    refine lv_istore hx hb dX8_allow_34 hl (by decide) rfl (fun ls hl => ?_)
    have hl : lv_has ls 10 [(8, .int (zb false)), (7, .int (zb q1)), (0, .ref y), (1, .int gr), (2, .int (zb i)), (3, .int b), (4, .int z), (5, .int fp), (6, .int la)] := hl
    exact cut_36 false H _ ls (iff_of_false Bool.false_ne_true (fun h => hzq3 h.1)) hw (lv_sub hl [2, 3, 4, 5, 6, 7, 8, 1, 0] rfl)
  · skip
    have hzq3 := hq3.mp ((zb_1 _).mp c_16)
    refine lv_iload hx hb dX8_allow_19 (lv_at hl 6 rfl) ?_
    refine lv_iload hx hb dX8_allow_21 (lv_at hl 7 rfl) ?_
    refine z_goe hw.2 (z_runS Cx hw (c_X8_arePorts E l (zQ E (X ++ zMw E y ad sc g) C) fp la) (va_cwS 2 Cx.1.2.2.2.2 gX8_allow_X8_arePorts rfl rfl rfl (by decide +kernel) ⟨Nat.le_of_ble_eq_true rfl, Nat.le_of_ble_eq_true rfl⟩)  rfl hl.1 rfl (Nat.le_of_ble_eq_true rfl) dX8_allow_23 ⟨Nat.le_of_ble_eq_true rfl, Nat.le_of_ble_eq_true rfl⟩) (fun H locs hw => ?_)
    refine lv_topi (fun x_23 ex_23 => ?_)
    obtain ⟨q4, hq4, e_23⟩ : ∃ q : Bool, (q = true ↔ zpok fp la) ∧ x_23 = zb q := ⟨_, (zmpp_eq fp la), ex_23⟩
    clear ex_23
    subst e_23
    refine lv_if_eq (tgt := 33) hx hb dX8_allow_26 (by decide) (fun c_26 => ?_) (fun c_26 => ?_)
    · skip
      have hzq4 : ¬ (zpok fp la) := fun h => by
        have h9 := (zb_0 _).mp c_26
        rw [hq4.mpr h] at h9; cases h9
      refine lv_iconst (v := zb false) hx hb dX8_allow_33 rfl ?_
      refine lv_istore hx hb dX8_allow_34 hl (by decide) rfl (fun ls hl => ?_)
      have hl : lv_has ls 10 [(8, .int (zb false)), (7, .int (zb q1)), (0, .ref y), (1, .int gr), (2, .int (zb i)), (3, .int b), (4, .int z), (5, .int fp), (6, .int la)] := hl
      exact cut_36 false H _ ls (iff_of_false Bool.false_ne_true (fun h => hzq4 h.2)) hw (lv_sub hl [2, 3, 4, 5, 6, 7, 8, 1, 0] rfl)
    · skip
      have hzq4 := hq4.mp ((zb_1 _).mp c_26)
      refine lv_iconst (v := zb true) hx hb dX8_allow_29 rfl ?_
      refine lv_goto (tgt := 34) hx hb dX8_allow_30 (by decide) ?_
      refine lv_istore hx hb dX8_allow_34 hl (by decide) rfl (fun ls hl => ?_)
      have hl : lv_has ls 10 [(8, .int (zb true)), (7, .int (zb q1)), (0, .ref y), (1, .int gr), (2, .int (zb i)), (3, .int b), (4, .int z), (5, .int fp), (6, .int la)] := hl
      exact cut_36 true H _ ls (iff_of_true rfl ⟨hzq3, hzq4⟩) hw (lv_sub hl [2, 3, 4, 5, 6, 7, 8, 1, 0] rfl)

theorem zput_t (x : Int32) (k : Int32) : (x &&& ((1 : Int32) <<< (k &&& 31) ^^^ -1)) ||| (1 : Int32) <<< (k &&& 31) = zput x k (zb true) := by
  unfold zput
  rw [if_neg (by decide)]
  refine b_ext (fun i hi => ?_)
  simp only [b_or, b_and, b_xor, b_m1 i hi]
  generalize bt x i = x1
  generalize bt ((1 : Int32) <<< (k &&& 31)) i = x2
  cases x1 <;> cases x2 <;> decide
theorem zput_f (x : Int32) (k : Int32) : (x &&& ((1 : Int32) <<< (k &&& 31) ^^^ -1)) ||| 0 = zput x k (zb false) := by
  unfold zput
  rw [if_pos (by decide), zx_or0]
theorem zbit_01 (g : Int32) (n : Nat) (hn : n < 32) : g >>> (nI n &&& 31) &&& 1 = 0 ∨ g >>> (nI n &&& 31) &&& 1 = 1 := by
  rw [zbit_shr g n hn]
  cases bt g n <;> decide
set_option maxRecDepth 100000 in
set_option maxHeartbeats 4000000 in
/-- setGroup -/
theorem c_m_setGroup (E : zG) (l : Launch) (X : va_W) (C : zLs) (y : Nat) (ad : Nat → Nat) (sc : Nat → Int32) (g : Nat → Nat → Int32) (V : zCl) (hT : zMT sc g V) (hI : zInv V) (f gr : Int32) (i : Bool) : Met l yX8_setGroup wsX8_setGroup (zR 3 0 0) (zPre E [.ref y, .int f, .int gr, .int (zb i)] (zQ E (X ++ zMw E y ad sc g) C)) (zPm E X C y ad (zA_setGroup V f gr i)) 0 0 (eA E) := by
  refine z_of (cc := cX8_setGroup) (maxL := 5) (ret := (some .boolean)) (by decide) rfl rfl (Nat.le_of_ble_eq_true rfl) ?_
  intro p e s m below meth c ls Cx hr hnm hw hl
  have hx := Cx.1.1
  have hb := Cx.1.2.1
  have hR := hT.1
  have hn1 : sc 1 = nI (vN V).length := hR.1.1
  have hm1 := hR.1.2.1
  have hn3 : sc 3 = nI (vS V).length := hR.2.1.1
  have hm3 := hR.2.1.2.1
  have hn6 : sc 6 = nI (vH V).length := hR.2.2.1.1
  have hm6 := hR.2.2.1.2.1
  have hn10 : sc 10 = nI (vP V).length := hR.2.2.2.1.1
  have hm10 := hR.2.2.2.1.2.1
  have hn13 : sc 13 = nI (vG V).length := hR.2.2.2.2.1
  have hm13 := hR.2.2.2.2.2.1
  have hl : lv_has ls 5 [(0, .ref y), (1, .int f), (2, .int gr), (3, .int (zb i))] := hl
  refine lv_aload_n hx hb dX8_setGroup_0 rfl (lv_at hl 0 rfl) ?_
  refine lv_iload_n hx hb dX8_setGroup_1 rfl (lv_at hl 1 rfl) ?_
  refine lv_aload_n hx hb dX8_setGroup_2 rfl (lv_at hl 0 rfl) ?_
  refine z_get Cx hw (T := TX8) (N := 26) (ci := 11) (fun _ h => List.mem_cons_of_mem _ (List.mem_append_right _ (h))) zM_x rfl 6 (by decide) (List.mem_of_getElem? (i := 1) rfl) rfl rfl dX8_setGroup_3 ?_
  refine z_goe hw.2 (z_runS Cx hw (c_X8_isIn E l (zQ E (X ++ zMw E y ad sc g) C) f (sc 6)) (va_cwS 2 Cx.1.2.2.2.2 gX8_setGroup_X8_isIn rfl rfl rfl (by decide +kernel) ⟨Nat.le_of_ble_eq_true rfl, Nat.le_of_ble_eq_true rfl⟩)  rfl hl.1 rfl (Nat.le_of_ble_eq_true rfl) dX8_setGroup_6 ⟨Nat.le_of_ble_eq_true rfl, Nat.le_of_ble_eq_true rfl⟩) (fun H locs hw => ?_)
  refine lv_topi (fun x_6 ex_6 => ?_)
  obtain ⟨q1, hq1, e_6⟩ : ∃ q : Bool, (q = true ↔ zix f (vH V).length) ∧ x_6 = zb q := ⟨_, (by rw [hn6]; exact zmin_ix (by omega)), ex_6⟩
  clear ex_6
  subst e_6
  refine lv_if_eq (tgt := 27) hx hb dX8_setGroup_9 (by decide) (fun c_9 => ?_) (fun c_9 => ?_)
  · skip
    have hzq1 : ¬ (zix f (vH V).length) := fun h => by
      have h9 := (zb_0 _).mp c_9
      rw [hq1.mpr h] at h9; cases h9
    have hno : ¬ (zix f (vH V).length ∧ zix gr (vG V).length) := fun h => hzq1 h.1
    refine lv_iconst (v := nI 1) hx hb dX8_setGroup_27 rfl ?_
    refine z_goe hw.2 (z_runV Cx hw (c_X8_holds E l X C y ad sc g _) (cwV 1 Cx.1.2.2.2.2 gX8_setGroup_X8_holds rfl rfl rfl (by decide +kernel) ⟨Nat.le_of_ble_eq_true rfl, Nat.le_of_ble_eq_true rfl⟩) (z_recv Cx hw (r := (RX8, TX8, 26)) zM_x rfl) rfl hl.1 rfl (Nat.le_of_ble_eq_true rfl) dX8_setGroup_28 ⟨Nat.le_of_ble_eq_true rfl, Nat.le_of_ble_eq_true rfl⟩) (fun H locs hw => ?_)
    refine lv_if_ne (tgt := 36) hx hb dX8_setGroup_31 (by decide) (fun c_31 => ?_) (fun c_31 => ?_)
    · skip
      exact absurd (by decide) c_31
    · skip
      refine lv_iconst (v := 0) hx hb dX8_setGroup_34 (by decide) ?_
      exact z_iret (wf := (fun (u : zU) => zQ E (X ++ zMw E y ad u.2.1 u.2.2.1) C)) Cx hr (by rfl) (Nat.le_of_ble_eq_true rfl) (Nat.le_of_ble_eq_true rfl) (1, _, _, V) hw ⟨Or.inl ⟨rfl, rfl, hno⟩, zMT_0 hT _, rfl⟩ dX8_setGroup_35
  · skip
    have hzq1 := hq1.mp ((zb_1 _).mp c_9)
    refine lv_iload_n hx hb dX8_setGroup_12 rfl (lv_at hl 2 rfl) ?_
    refine lv_aload_n hx hb dX8_setGroup_13 rfl (lv_at hl 0 rfl) ?_
    refine z_get Cx hw (T := TX8) (N := 26) (ci := 11) (fun _ h => List.mem_cons_of_mem _ (List.mem_append_right _ (h))) zM_x rfl 13 (by decide) (List.mem_of_getElem? (i := 2) rfl) rfl rfl dX8_setGroup_14 ?_
    refine z_goe hw.2 (z_runS Cx hw (c_X8_isIn E l (zQ E (X ++ zMw E y ad sc g) C) gr (sc 13)) (va_cwS 2 Cx.1.2.2.2.2 gX8_setGroup_X8_isIn rfl rfl rfl (by decide +kernel) ⟨Nat.le_of_ble_eq_true rfl, Nat.le_of_ble_eq_true rfl⟩)  rfl hl.1 rfl (Nat.le_of_ble_eq_true rfl) dX8_setGroup_17 ⟨Nat.le_of_ble_eq_true rfl, Nat.le_of_ble_eq_true rfl⟩) (fun H locs hw => ?_)
    refine lv_topi (fun x_17 ex_17 => ?_)
    obtain ⟨q2, hq2, e_17⟩ : ∃ q : Bool, (q = true ↔ zix gr (vG V).length) ∧ x_17 = zb q := ⟨_, (by rw [hn13]; exact zmin_ix (by omega)), ex_17⟩
    clear ex_17
    subst e_17
    refine lv_if_eq (tgt := 27) hx hb dX8_setGroup_20 (by decide) (fun c_20 => ?_) (fun c_20 => ?_)
    · skip
      have hzq2 : ¬ (zix gr (vG V).length) := fun h => by
        have h9 := (zb_0 _).mp c_20
        rw [hq2.mpr h] at h9; cases h9
      have hno : ¬ (zix f (vH V).length ∧ zix gr (vG V).length) := fun h => hzq2 h.2
      refine lv_iconst (v := nI 1) hx hb dX8_setGroup_27 rfl ?_
      refine z_goe hw.2 (z_runV Cx hw (c_X8_holds E l X C y ad sc g _) (cwV 1 Cx.1.2.2.2.2 gX8_setGroup_X8_holds rfl rfl rfl (by decide +kernel) ⟨Nat.le_of_ble_eq_true rfl, Nat.le_of_ble_eq_true rfl⟩) (z_recv Cx hw (r := (RX8, TX8, 26)) zM_x rfl) rfl hl.1 rfl (Nat.le_of_ble_eq_true rfl) dX8_setGroup_28 ⟨Nat.le_of_ble_eq_true rfl, Nat.le_of_ble_eq_true rfl⟩) (fun H locs hw => ?_)
      refine lv_if_ne (tgt := 36) hx hb dX8_setGroup_31 (by decide) (fun c_31 => ?_) (fun c_31 => ?_)
      · skip
        exact absurd (by decide) c_31
      · skip
        refine lv_iconst (v := 0) hx hb dX8_setGroup_34 (by decide) ?_
        exact z_iret (wf := (fun (u : zU) => zQ E (X ++ zMw E y ad u.2.1 u.2.2.1) C)) Cx hr (by rfl) (Nat.le_of_ble_eq_true rfl) (Nat.le_of_ble_eq_true rfl) (1, _, _, V) hw ⟨Or.inl ⟨rfl, rfl, hno⟩, zMT_0 hT _, rfl⟩ dX8_setGroup_35
    · skip
      have hzq2 := hq2.mp ((zb_1 _).mp c_20)
      obtain ⟨k, hk, rfl⟩ := hzq1
      obtain ⟨j, hj, rfl⟩ := hzq2
      have hv := zhv_get hk
      generalize zhv V k = v at hv
      obtain ⟨-, -, hg9⟩ := hR.2.2.1.2.2 k v hv
      have hk12 : k < 12 := by omega
      have hj32 : j < 32 := by omega
      refine lv_iconst (v := nI 0) hx hb dX8_setGroup_23 rfl ?_
      refine lv_goto (tgt := 28) hx hb dX8_setGroup_24 (by decide) ?_
      refine z_goe hw.2 (z_runV Cx hw (c_X8_holds E l X C y ad sc g _) (cwV 1 Cx.1.2.2.2.2 gX8_setGroup_X8_holds rfl rfl rfl (by decide +kernel) ⟨Nat.le_of_ble_eq_true rfl, Nat.le_of_ble_eq_true rfl⟩) (z_recv Cx hw (r := (RX8, TX8, 26)) zM_x rfl) rfl hl.1 rfl (Nat.le_of_ble_eq_true rfl) dX8_setGroup_28 ⟨Nat.le_of_ble_eq_true rfl, Nat.le_of_ble_eq_true rfl⟩) (fun H locs hw => ?_)
      refine lv_if_ne (tgt := 36) hx hb dX8_setGroup_31 (by decide) (fun c_31 => ?_) (fun c_31 => ?_)
      · skip
        refine lv_aload_n hx hb dX8_setGroup_36 rfl (lv_at hl 0 rfl) ?_
        refine z_get Cx hw (T := TX8) (N := 26) (ci := 11) (fun _ h => List.mem_cons_of_mem _ (List.mem_append_right _ (h))) zM_x rfl 9 (by decide) (List.mem_of_getElem? (i := 3) rfl) rfl rfl dX8_setGroup_37 ?_
        refine lv_iload_n hx hb dX8_setGroup_40 rfl (lv_at hl 1 rfl) ?_
        refine zm_iald Cx hw (k := 9) (n := 12) (by decide) hk12 dX8_setGroup_41 ?_
        refine lv_topi (fun x_41 ex_41 => ?_)
        have e_41 := ex_41.trans (hg9)
        clear ex_41
        subst e_41
        refine lv_iload_n hx hb dX8_setGroup_42 rfl (lv_at hl 2 rfl) ?_
        refine lv_ishr hx hb dX8_setGroup_43 ?_
        refine lv_iconst (v := 1) hx hb dX8_setGroup_44 (by decide) ?_
        refine lv_iand hx hb dX8_setGroup_45 ?_
        refine lv_iconst (v := 1) hx hb dX8_setGroup_46 (by decide) ?_
        refine lv_icmp_ne (tgt := 54) hx hb dX8_setGroup_47 (by decide) (fun c_47 => ?_) (fun c_47 => ?_)
        · skip
          refine lv_iconst (v := zb false) hx hb dX8_setGroup_54 rfl ?_
          refine lv_istore hx hb dX8_setGroup_55 hl (by decide) rfl (fun ls hl => ?_)
          have hl : lv_has ls 5 [(4, .int (zb false)), (0, .ref y), (1, .int (nI k)), (2, .int (nI j)), (3, .int (zb i))] := hl
          refine lv_aload_n hx hb dX8_setGroup_57 rfl (lv_at hl 1 rfl) ?_
          refine z_get Cx hw (T := TX8) (N := 26) (ci := 11) (fun _ h => List.mem_cons_of_mem _ (List.mem_append_right _ (h))) zM_x rfl 9 (by decide) (List.mem_of_getElem? (i := 3) rfl) rfl rfl dX8_setGroup_58 ?_
          refine lv_iload_n hx hb dX8_setGroup_61 rfl (lv_at hl 2 rfl) ?_
          refine lv_aload_n hx hb dX8_setGroup_62 rfl (lv_at hl 1 rfl) ?_
          refine z_get Cx hw (T := TX8) (N := 26) (ci := 11) (fun _ h => List.mem_cons_of_mem _ (List.mem_append_right _ (h))) zM_x rfl 9 (by decide) (List.mem_of_getElem? (i := 3) rfl) rfl rfl dX8_setGroup_63 ?_
          refine lv_iload_n hx hb dX8_setGroup_66 rfl (lv_at hl 2 rfl) ?_
          refine zm_iald Cx hw (k := 9) (n := 12) (by decide) hk12 dX8_setGroup_67 ?_
          refine lv_topi (fun x_67 ex_67 => ?_)
          have e_67 := ex_67.trans (hg9)
          clear ex_67
          subst e_67
          refine lv_iconst (v := 1) hx hb dX8_setGroup_68 (by decide) ?_
          refine lv_iload_n hx hb dX8_setGroup_69 rfl (lv_at hl 3 rfl) ?_
          refine lv_ishl hx hb dX8_setGroup_70 ?_
          refine lv_iconst (v := -1) hx hb dX8_setGroup_71 (by decide) ?_
          refine lv_ixor hx hb dX8_setGroup_72 ?_
          refine lv_iand hx hb dX8_setGroup_73 ?_
          refine lv_iload_n hx hb dX8_setGroup_74 rfl (lv_at hl 4 rfl) ?_
          refine lv_if_eq (tgt := 84) hx hb dX8_setGroup_75 (by decide) (fun c_75 => ?_) (fun c_75 => ?_)
          · skip
            have hib : i = false := (zb_0 _).mp c_75
            refine lv_iconst (v := 0) hx hb dX8_setGroup_84 (by decide) ?_
            refine lv_ior hx hb dX8_setGroup_85 ?_
            refine lv_topi (fun x_85 ex_85 => ?_)
            have e_85 : x_85 = zput v.2.2 (nI j) (zb i) := by rw [ex_85, hib]; exact zput_f v.2.2 (nI j)
            clear ex_85
            subst e_85
            refine zm_iast Cx hw (k := 9) (n := 12) (by decide) hk12 dX8_setGroup_86 (fun H locs hw => ?_)
            refine lv_iload hx hb dX8_setGroup_87 (lv_at hl 0 rfl) ?_
            exact z_iret (wf := (fun (u : zU) => zQ E (X ++ zMw E y ad u.2.1 u.2.2.1) C)) Cx hr (by rfl) (Nat.le_of_ble_eq_true rfl) (Nat.le_of_ble_eq_true rfl) (0, _, _, _) hw ⟨Or.inr ⟨⟨⟨k, hk, rfl⟩, j, hj, rfl⟩, k, j, v, rfl, rfl, hj, hv, rfl, rfl, by rw [decide_eq_true ((zbit_0 _ j hj32).mp ((zbit_01 _ j hj32).resolve_right c_47))]; rfl⟩, zMT_host (zMT_0 hT _) hv _, rfl⟩ dX8_setGroup_89
          · skip
            have hib : i = true := (zb_1 _).mp c_75
            refine lv_iconst (v := 1) hx hb dX8_setGroup_78 (by decide) ?_
            refine lv_iload_n hx hb dX8_setGroup_79 rfl (lv_at hl 3 rfl) ?_
            refine lv_ishl hx hb dX8_setGroup_80 ?_
            refine lv_goto (tgt := 85) hx hb dX8_setGroup_81 (by decide) ?_
            refine lv_ior hx hb dX8_setGroup_85 ?_
            refine lv_topi (fun x_85 ex_85 => ?_)
            have e_85 : x_85 = zput v.2.2 (nI j) (zb i) := by rw [ex_85, hib]; exact zput_t v.2.2 (nI j)
            clear ex_85
            subst e_85
            refine zm_iast Cx hw (k := 9) (n := 12) (by decide) hk12 dX8_setGroup_86 (fun H locs hw => ?_)
            refine lv_iload hx hb dX8_setGroup_87 (lv_at hl 0 rfl) ?_
            exact z_iret (wf := (fun (u : zU) => zQ E (X ++ zMw E y ad u.2.1 u.2.2.1) C)) Cx hr (by rfl) (Nat.le_of_ble_eq_true rfl) (Nat.le_of_ble_eq_true rfl) (0, _, _, _) hw ⟨Or.inr ⟨⟨⟨k, hk, rfl⟩, j, hj, rfl⟩, k, j, v, rfl, rfl, hj, hv, rfl, rfl, by rw [decide_eq_true ((zbit_0 _ j hj32).mp ((zbit_01 _ j hj32).resolve_right c_47))]; rfl⟩, zMT_host (zMT_0 hT _) hv _, rfl⟩ dX8_setGroup_89
        · skip
          refine lv_iconst (v := zb true) hx hb dX8_setGroup_50 rfl ?_
          refine lv_goto (tgt := 55) hx hb dX8_setGroup_51 (by decide) ?_
          refine lv_istore hx hb dX8_setGroup_55 hl (by decide) rfl (fun ls hl => ?_)
          have hl : lv_has ls 5 [(4, .int (zb true)), (0, .ref y), (1, .int (nI k)), (2, .int (nI j)), (3, .int (zb i))] := hl
          refine lv_aload_n hx hb dX8_setGroup_57 rfl (lv_at hl 1 rfl) ?_
          refine z_get Cx hw (T := TX8) (N := 26) (ci := 11) (fun _ h => List.mem_cons_of_mem _ (List.mem_append_right _ (h))) zM_x rfl 9 (by decide) (List.mem_of_getElem? (i := 3) rfl) rfl rfl dX8_setGroup_58 ?_
          refine lv_iload_n hx hb dX8_setGroup_61 rfl (lv_at hl 2 rfl) ?_
          refine lv_aload_n hx hb dX8_setGroup_62 rfl (lv_at hl 1 rfl) ?_
          refine z_get Cx hw (T := TX8) (N := 26) (ci := 11) (fun _ h => List.mem_cons_of_mem _ (List.mem_append_right _ (h))) zM_x rfl 9 (by decide) (List.mem_of_getElem? (i := 3) rfl) rfl rfl dX8_setGroup_63 ?_
          refine lv_iload_n hx hb dX8_setGroup_66 rfl (lv_at hl 2 rfl) ?_
          refine zm_iald Cx hw (k := 9) (n := 12) (by decide) hk12 dX8_setGroup_67 ?_
          refine lv_topi (fun x_67 ex_67 => ?_)
          have e_67 := ex_67.trans (hg9)
          clear ex_67
          subst e_67
          refine lv_iconst (v := 1) hx hb dX8_setGroup_68 (by decide) ?_
          refine lv_iload_n hx hb dX8_setGroup_69 rfl (lv_at hl 3 rfl) ?_
          refine lv_ishl hx hb dX8_setGroup_70 ?_
          refine lv_iconst (v := -1) hx hb dX8_setGroup_71 (by decide) ?_
          refine lv_ixor hx hb dX8_setGroup_72 ?_
          refine lv_iand hx hb dX8_setGroup_73 ?_
          refine lv_iload_n hx hb dX8_setGroup_74 rfl (lv_at hl 4 rfl) ?_
          refine lv_if_eq (tgt := 84) hx hb dX8_setGroup_75 (by decide) (fun c_75 => ?_) (fun c_75 => ?_)
          · skip
            have hib : i = false := (zb_0 _).mp c_75
            refine lv_iconst (v := 0) hx hb dX8_setGroup_84 (by decide) ?_
            refine lv_ior hx hb dX8_setGroup_85 ?_
            refine lv_topi (fun x_85 ex_85 => ?_)
            have e_85 : x_85 = zput v.2.2 (nI j) (zb i) := by rw [ex_85, hib]; exact zput_f v.2.2 (nI j)
            clear ex_85
            subst e_85
            refine zm_iast Cx hw (k := 9) (n := 12) (by decide) hk12 dX8_setGroup_86 (fun H locs hw => ?_)
            refine lv_iload hx hb dX8_setGroup_87 (lv_at hl 0 rfl) ?_
            exact z_iret (wf := (fun (u : zU) => zQ E (X ++ zMw E y ad u.2.1 u.2.2.1) C)) Cx hr (by rfl) (Nat.le_of_ble_eq_true rfl) (Nat.le_of_ble_eq_true rfl) (0, _, _, _) hw ⟨Or.inr ⟨⟨⟨k, hk, rfl⟩, j, hj, rfl⟩, k, j, v, rfl, rfl, hj, hv, rfl, rfl, by rw [decide_eq_false ((zbit_1 _ j hj32).mp c_47)]; rfl⟩, zMT_host (zMT_0 hT _) hv _, rfl⟩ dX8_setGroup_89
          · skip
            have hib : i = true := (zb_1 _).mp c_75
            refine lv_iconst (v := 1) hx hb dX8_setGroup_78 (by decide) ?_
            refine lv_iload_n hx hb dX8_setGroup_79 rfl (lv_at hl 3 rfl) ?_
            refine lv_ishl hx hb dX8_setGroup_80 ?_
            refine lv_goto (tgt := 85) hx hb dX8_setGroup_81 (by decide) ?_
            refine lv_ior hx hb dX8_setGroup_85 ?_
            refine lv_topi (fun x_85 ex_85 => ?_)
            have e_85 : x_85 = zput v.2.2 (nI j) (zb i) := by rw [ex_85, hib]; exact zput_t v.2.2 (nI j)
            clear ex_85
            subst e_85
            refine zm_iast Cx hw (k := 9) (n := 12) (by decide) hk12 dX8_setGroup_86 (fun H locs hw => ?_)
            refine lv_iload hx hb dX8_setGroup_87 (lv_at hl 0 rfl) ?_
            exact z_iret (wf := (fun (u : zU) => zQ E (X ++ zMw E y ad u.2.1 u.2.2.1) C)) Cx hr (by rfl) (Nat.le_of_ble_eq_true rfl) (Nat.le_of_ble_eq_true rfl) (0, _, _, _) hw ⟨Or.inr ⟨⟨⟨k, hk, rfl⟩, j, hj, rfl⟩, k, j, v, rfl, rfl, hj, hv, rfl, rfl, by rw [decide_eq_false ((zbit_1 _ j hj32).mp c_47)]; rfl⟩, zMT_host (zMT_0 hT _) hv _, rfl⟩ dX8_setGroup_89
      · skip
        exact absurd c_31 (by decide)


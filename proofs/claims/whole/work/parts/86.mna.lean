set_option maxRecDepth 100000 in
set_option maxHeartbeats 4000000 in
/-- addNetwork -/
theorem c_m_addNetwork (E : zG) (l : Launch) (X : va_W) (C : zLs) (y : Nat) (ad : Nat → Nat) (sc : Nat → Int32) (g : Nat → Nat → Int32) (V : zCl) (hT : zMT sc g V) (hI : zInv V) (b z : Int32) : Met l yX8_addNetwork wsX8_addNetwork (zR 3 0 0) (zPre E [.ref y, .int b, .int z] (zQ E (X ++ zMw E y ad sc g) C)) (zPm E X C y ad (zA_addNetwork V b z)) 0 0 (eA E) := by
  refine z_of (cc := cX8_addNetwork) (maxL := 6) (ret := (some .int)) (by decide) rfl rfl (Nat.le_of_ble_eq_true rfl) ?_
  intro p e s m below meth c ls Cx hr hnm hw hl
  have hx := Cx.1.1
  have hb := Cx.1.2.1
  have hR := hT.1
  have hn1 : sc 1 = nI (vN V).length := hR.1.1
  have hm1 := hR.1.2.1
  have hn3 : sc 3 = nI (vS V).length := hR.2.1.1
  have hm3 := hR.2.1.2.1
  have hn6 : sc 6 = nI (vH V).length := hR.2.2.1.1
  have hm6 := hR.2.2.1.2.1
  have hn10 : sc 10 = nI (vP V).length := hR.2.2.2.1.1
  have hm10 := hR.2.2.2.1.2.1
  have hn13 : sc 13 = nI (vG V).length := hR.2.2.2.2.1
  have hm13 := hR.2.2.2.2.2.1
  have hzb := zmblk_iff b z
  have hl : lv_has ls 6 [(0, .ref y), (1, .int b), (2, .int z)] := hl
  refine lv_iload_n hx hb dX8_addNetwork_0 rfl (lv_at hl 1 rfl) ?_
  refine lv_iload_n hx hb dX8_addNetwork_1 rfl (lv_at hl 2 rfl) ?_
  refine z_goe hw.2 (z_runS Cx hw (c_X8_isBlock E l (zQ E (X ++ zMw E y ad sc g) C) b z) (va_cwS 2 Cx.1.2.2.2.2 gX8_addNetwork_X8_isBlock rfl rfl rfl (by decide +kernel) ⟨Nat.le_of_ble_eq_true rfl, Nat.le_of_ble_eq_true rfl⟩)  rfl hl.1 rfl (Nat.le_of_ble_eq_true rfl) dX8_addNetwork_2 ⟨Nat.le_of_ble_eq_true rfl, Nat.le_of_ble_eq_true rfl⟩) (fun H locs hw => ?_)
  refine lv_topi (fun x_2 ex_2 => ?_)
  obtain ⟨q, hq, e_2⟩ : ∃ q : Bool, (q = true ↔ zbok b z) ∧ x_2 = zb q := ⟨_, (by rw [decide_eq_true_iff]; exact zmblk_iff b z), ex_2⟩
  clear ex_2
  subst e_2
  refine lv_istore_n hx hb dX8_addNetwork_5 rfl hl (by decide) rfl (fun ls hl => ?_)
  have hl : lv_has ls 6 [(3, .int (zb q)), (0, .ref y), (1, .int b), (2, .int z)] := hl
  refine lv_aload_n hx hb dX8_addNetwork_6 rfl (lv_at hl 1 rfl) ?_
  refine z_get Cx hw (T := TX8) (N := 26) (ci := 11) (fun _ h => List.mem_cons_of_mem _ (List.mem_append_right _ (h))) zM_x rfl 1 (by decide) (List.mem_of_getElem? (i := 1) rfl) rfl rfl dX8_addNetwork_7 ?_
  refine lv_topi (fun x_7 ex_7 => ?_)
  have e_7 : x_7 = nI (vN V).length := ex_7.trans hn1
  clear ex_7
  subst e_7
  refine lv_iconst (v := nI 4) hx hb dX8_addNetwork_10 rfl ?_
  have cut_24 : ∀ (F : Bool) (H : Heap) (locs : List Loc) (ls : Array Slot), (q = true → F = (decide ((vN V).length < 4) && !((vN V).take 0).any (fun w => zovl w (b, z)))) → zHw E (zQ E (X ++ zMw E y ad sc g) C) s H locs → lv_has ls 6 [(0, .ref y), (1, .int b), (2, .int z), (3, .int (zb q)), (4, .int (zb F)), (5, .int (nI 0))] → W p l e (zR 3 0 0) s m ([.ref y, .int b, .int z] : List Value).toArray below meth c H locs 0 0 (MQ below (zPm E X C y ad (zA_addNetwork V b z)) ([.ref y, .int b, .int z] : List Value).toArray s 0 0 (eA E)) (F0 m 24 ls []) := by
    intro F H locs ls hF hw hl
    have loop_24 : ∀ (nn : Nat) (i : Nat) (F : Bool) (H : Heap) (locs : List Loc) (ls : Array Slot), (i ≤ (vN V).length) → (q = true → F = (decide ((vN V).length < 4) && !((vN V).take i).any (fun w => zovl w (b, z)))) → (vN V).length - i < nn → zHw E (zQ E (X ++ zMw E y ad sc g) C) s H locs → lv_has ls 6 [(0, .ref y), (1, .int b), (2, .int z), (3, .int (zb q)), (4, .int (zb F)), (5, .int (nI i))] → W p l e (zR 3 0 0) s m ([.ref y, .int b, .int z] : List Value).toArray below meth c H locs 0 0 (MQ below (zPm E X C y ad (zA_addNetwork V b z)) ([.ref y, .int b, .int z] : List Value).toArray s 0 0 (eA E)) (F0 m 24 ls []) := by
      intro nn
      induction nn with
      | zero => intro i F H locs ls hi hF hm; exact absurd hm (Nat.not_lt_zero _)
      | succ nn ih_24 =>
        intro i F H locs ls hi hF hm hw hl
        refine lv_iload hx hb dX8_addNetwork_24 (lv_at hl 5 rfl) ?_
        refine lv_aload_n hx hb dX8_addNetwork_26 rfl (lv_at hl 0 rfl) ?_
        refine z_get Cx hw (T := TX8) (N := 26) (ci := 11) (fun _ h => List.mem_cons_of_mem _ (List.mem_append_right _ (h))) zM_x rfl 1 (by decide) (List.mem_of_getElem? (i := 1) rfl) rfl rfl dX8_addNetwork_27 ?_
        refine lv_topi (fun x_27 ex_27 => ?_)
        have e_27 : x_27 = nI (vN V).length := ex_27.trans hn1
        clear ex_27
        subst e_27
        refine lv_icmp_ge (tgt := 73) hx hb dX8_addNetwork_30 (by decide) (fun c_30 => ?_) (fun c_30 => ?_)
        · skip
          have hiN : i = (vN V).length := by
            have := (nI_leI (a := (vN V).length) (b := i) (by omega) (by omega)).mp c_30
            omega
          have hex : q = true → (F = true ↔ ((vN V).length < 4 ∧ (vN V).any (fun w => zovl w (b, z)) = false)) := fun h => by
            rw [hF h, hiN, List.take_length, Bool.and_eq_true, decide_eq_true_iff, Bool.not_eq_true']
          refine lv_aload_n hx hb dX8_addNetwork_73 rfl (lv_at hl 0 rfl) ?_
          refine lv_iload_n hx hb dX8_addNetwork_74 rfl (lv_at hl 3 rfl) ?_
          refine lv_if_ne (tgt := 82) hx hb dX8_addNetwork_75 (by decide) (fun c_75 => ?_) (fun c_75 => ?_)
          · skip
            have hbz : zbok b z := hq.mp ((zb_1 _).mp c_75)
            refine lv_iload hx hb dX8_addNetwork_82 (lv_at hl 4 rfl) ?_
            refine lv_if_eq (tgt := 91) hx hb dX8_addNetwork_84 (by decide) (fun c_84 => ?_) (fun c_84 => ?_)
            · skip
              have hcd : ¬ ((vN V).length < 4 ∧ (vN V).any (fun w => zovl w (b, z)) = false) := fun h => by
                have h9 := (zb_0 _).mp c_84
                rw [(hex (hq.mpr hbz)).mpr h] at h9; cases h9
              refine lv_iconst (v := nI 2) hx hb dX8_addNetwork_91 rfl ?_
              refine z_goe hw.2 (z_runV Cx hw (c_X8_holds E l X C y ad sc g _) (cwV 1 Cx.1.2.2.2.2 gX8_addNetwork_X8_holds rfl rfl rfl (by decide +kernel) ⟨Nat.le_of_ble_eq_true rfl, Nat.le_of_ble_eq_true rfl⟩) (z_recv Cx hw (r := (RX8, TX8, 26)) zM_x rfl) rfl hl.1 rfl (Nat.le_of_ble_eq_true rfl) dX8_addNetwork_92 ⟨Nat.le_of_ble_eq_true rfl, Nat.le_of_ble_eq_true rfl⟩) (fun H locs hw => ?_)
              refine lv_if_ne (tgt := 100) hx hb dX8_addNetwork_95 (by decide) (fun c_95 => ?_) (fun c_95 => ?_)
              · skip
                exact absurd (by decide) c_95
              · skip
                refine lv_iconst (v := 0) hx hb dX8_addNetwork_98 (by decide) ?_
                exact z_iret (wf := (fun (u : zU) => zQ E (X ++ zMw E y ad u.2.1 u.2.2.1) C)) Cx hr rfl (Nat.le_of_ble_eq_true rfl) (Nat.le_of_ble_eq_true rfl) (2, _, _, V) hw ⟨Or.inr ⟨hbz, Or.inl ⟨rfl, rfl, hcd⟩⟩, zMT_0 hT _, rfl⟩ dX8_addNetwork_99
            · skip
              have hcd := (hex (hq.mpr hbz)).mp ((zb_1 _).mp c_84)
              refine lv_iconst (v := nI 0) hx hb dX8_addNetwork_87 rfl ?_
              refine lv_goto (tgt := 92) hx hb dX8_addNetwork_88 (by decide) ?_
              refine z_goe hw.2 (z_runV Cx hw (c_X8_holds E l X C y ad sc g _) (cwV 1 Cx.1.2.2.2.2 gX8_addNetwork_X8_holds rfl rfl rfl (by decide +kernel) ⟨Nat.le_of_ble_eq_true rfl, Nat.le_of_ble_eq_true rfl⟩) (z_recv Cx hw (r := (RX8, TX8, 26)) zM_x rfl) rfl hl.1 rfl (Nat.le_of_ble_eq_true rfl) dX8_addNetwork_92 ⟨Nat.le_of_ble_eq_true rfl, Nat.le_of_ble_eq_true rfl⟩) (fun H locs hw => ?_)
              refine lv_if_ne (tgt := 100) hx hb dX8_addNetwork_95 (by decide) (fun c_95 => ?_) (fun c_95 => ?_)
              · skip
                refine lv_aload_n hx hb dX8_addNetwork_100 rfl (lv_at hl 0 rfl) ?_
                refine z_get Cx hw (T := TX8) (N := 26) (ci := 11) (fun _ h => List.mem_cons_of_mem _ (List.mem_append_right _ (h))) zM_x rfl 2 (by decide) (List.mem_of_getElem? (i := 2) rfl) rfl rfl dX8_addNetwork_101 ?_
                refine lv_aload_n hx hb dX8_addNetwork_104 rfl (lv_at hl 0 rfl) ?_
                refine z_get Cx hw (T := TX8) (N := 26) (ci := 11) (fun _ h => List.mem_cons_of_mem _ (List.mem_append_right _ (h))) zM_x rfl 1 (by decide) (List.mem_of_getElem? (i := 1) rfl) rfl rfl dX8_addNetwork_105 ?_
                refine lv_topi (fun x_105 ex_105 => ?_)
                have e_105 : x_105 = nI (vN V).length := ex_105.trans hn1
                clear ex_105
                subst e_105
                refine lv_iload_n hx hb dX8_addNetwork_108 rfl (lv_at hl 1 rfl) ?_
                refine lv_iload_n hx hb dX8_addNetwork_109 rfl (lv_at hl 2 rfl) ?_
                refine z_goe hw.2 (z_runS Cx hw (c_X8_block E l _ b z) (va_cwS 2 Cx.1.2.2.2.2 gX8_addNetwork_X8_block rfl rfl rfl (by decide +kernel) ⟨Nat.le_of_ble_eq_true rfl, Nat.le_of_ble_eq_true rfl⟩)  rfl hl.1 rfl (Nat.le_of_ble_eq_true rfl) dX8_addNetwork_110 ⟨Nat.le_of_ble_eq_true rfl, Nat.le_of_ble_eq_true rfl⟩) (fun H locs hw => ?_)
                rw [show (16 : Int32) * b + z = zbi (b, z) from rfl]
                refine zm_iast Cx hw (k := 2) (n := 4) (by decide) hcd.1 dX8_addNetwork_113 (fun H locs hw => ?_)
                refine lv_aload_n hx hb dX8_addNetwork_114 rfl (lv_at hl 0 rfl) ?_
                refine lv_dup hx hb dX8_addNetwork_115 rfl ?_
                refine z_get Cx hw (T := TX8) (N := 26) (ci := 11) (fun _ h => List.mem_cons_of_mem _ (List.mem_append_right _ (h))) zM_x rfl 1 (by decide) (List.mem_of_getElem? (i := 1) rfl) rfl rfl dX8_addNetwork_116 ?_
                refine lv_topi (fun x_116 ex_116 => ?_)
                have e_116 : x_116 = nI (vN V).length := ex_116.trans hn1
                clear ex_116
                subst e_116
                refine lv_iconst (v := 1) hx hb dX8_addNetwork_119 (by decide) ?_
                refine lv_iadd hx hb dX8_addNetwork_120 ?_
                rw [show nI (vN V).length + 1 = nI ((vN V).length + 1) from nI_1 _]
                refine z_put Cx (X := X) hw (T := TX8) (N := 26) (ci := 11) (ty := .int) (fun _ h => List.mem_cons_of_mem _ (List.mem_append_right _ (h))) tyX8 tyX8_ok nmX8 zM_o rfl 1 (by decide) (List.mem_of_getElem? (i := 1) rfl) rfl rfl (by decide +kernel) rfl rfl (Nat.le_of_ble_eq_true rfl) dX8_addNetwork_121 (fun H locs hw2 => ?_)
                have hw := zM_putS 1 (nI ((vN V).length + 1)) hw hw2 rfl
                refine lv_aload_n hx hb dX8_addNetwork_124 rfl (lv_at hl 0 rfl) ?_
                refine z_get Cx hw (T := TX8) (N := 26) (ci := 11) (fun _ h => List.mem_cons_of_mem _ (List.mem_append_right _ (h))) zM_x rfl 1 (by decide) (List.mem_of_getElem? (i := 1) rfl) rfl rfl dX8_addNetwork_125 ?_
                refine lv_iconst (v := 1) hx hb dX8_addNetwork_128 (by decide) ?_
                refine lv_isub hx hb dX8_addNetwork_129 ?_
                exact z_iret (wf := (fun (u : zU) => zQ E (X ++ zMw E y ad u.2.1 u.2.2.1) C)) Cx hr rfl (Nat.le_of_ble_eq_true rfl) (Nat.le_of_ble_eq_true rfl) (0, _, _, _) hw ⟨Or.inr ⟨hbz, Or.inr ⟨hcd, rfl, rfl, nI_pred _⟩⟩, zMT_addN (zMT_0 hT _) hcd.1 (b, z), rfl⟩ dX8_addNetwork_130
              · skip
                exact absurd c_95 (by decide)
          · skip
            have hbz : ¬ zbok b z := fun h => by
              have h9 := (zb_0 _).mp c_75
              rw [hq.mpr h] at h9; cases h9
            refine lv_iconst (v := nI 1) hx hb dX8_addNetwork_78 rfl ?_
            refine lv_goto (tgt := 92) hx hb dX8_addNetwork_79 (by decide) ?_
            refine z_goe hw.2 (z_runV Cx hw (c_X8_holds E l X C y ad sc g _) (cwV 1 Cx.1.2.2.2.2 gX8_addNetwork_X8_holds rfl rfl rfl (by decide +kernel) ⟨Nat.le_of_ble_eq_true rfl, Nat.le_of_ble_eq_true rfl⟩) (z_recv Cx hw (r := (RX8, TX8, 26)) zM_x rfl) rfl hl.1 rfl (Nat.le_of_ble_eq_true rfl) dX8_addNetwork_92 ⟨Nat.le_of_ble_eq_true rfl, Nat.le_of_ble_eq_true rfl⟩) (fun H locs hw => ?_)
            refine lv_if_ne (tgt := 100) hx hb dX8_addNetwork_95 (by decide) (fun c_95 => ?_) (fun c_95 => ?_)
            · skip
              exact absurd (by decide) c_95
            · skip
              refine lv_iconst (v := 0) hx hb dX8_addNetwork_98 (by decide) ?_
              exact z_iret (wf := (fun (u : zU) => zQ E (X ++ zMw E y ad u.2.1 u.2.2.1) C)) Cx hr rfl (Nat.le_of_ble_eq_true rfl) (Nat.le_of_ble_eq_true rfl) (1, _, _, V) hw ⟨Or.inl ⟨rfl, rfl, hbz⟩, zMT_0 hT _, rfl⟩ dX8_addNetwork_99
        · skip
          have hiN : i < (vN V).length := by
            rcases Nat.lt_or_ge i (vN V).length with h | h
            · exact h
            · exact absurd (nI_le h (by omega)) c_30
          have hu := List.getElem?_eq_getElem hiN
          generalize (vN V)[i] = u at hu
          have ht : (vN V).take (i + 1) = (vN V).take i ++ [u] := z_take hu
          have hg2 := hR.1.2.2 i u hu
          refine lv_iload_n hx hb dX8_addNetwork_33 rfl (lv_at hl 3 rfl) ?_
          refine lv_if_eq (tgt := 73) hx hb dX8_addNetwork_34 (by decide) (fun c_34 => ?_) (fun c_34 => ?_)
          · skip
            have hex : q = true → (F = true ↔ ((vN V).length < 4 ∧ (vN V).any (fun w => zovl w (b, z)) = false)) := fun h => by
              rw [(zb_0 _).mp c_34] at h; cases h
            refine lv_aload_n hx hb dX8_addNetwork_73 rfl (lv_at hl 0 rfl) ?_
            refine lv_iload_n hx hb dX8_addNetwork_74 rfl (lv_at hl 3 rfl) ?_
            refine lv_if_ne (tgt := 82) hx hb dX8_addNetwork_75 (by decide) (fun c_75 => ?_) (fun c_75 => ?_)
            · skip
              have hbz : zbok b z := hq.mp ((zb_1 _).mp c_75)
              refine lv_iload hx hb dX8_addNetwork_82 (lv_at hl 4 rfl) ?_
              refine lv_if_eq (tgt := 91) hx hb dX8_addNetwork_84 (by decide) (fun c_84 => ?_) (fun c_84 => ?_)
              · skip
                have hcd : ¬ ((vN V).length < 4 ∧ (vN V).any (fun w => zovl w (b, z)) = false) := fun h => by
                  have h9 := (zb_0 _).mp c_84
                  rw [(hex (hq.mpr hbz)).mpr h] at h9; cases h9
                refine lv_iconst (v := nI 2) hx hb dX8_addNetwork_91 rfl ?_
                refine z_goe hw.2 (z_runV Cx hw (c_X8_holds E l X C y ad sc g _) (cwV 1 Cx.1.2.2.2.2 gX8_addNetwork_X8_holds rfl rfl rfl (by decide +kernel) ⟨Nat.le_of_ble_eq_true rfl, Nat.le_of_ble_eq_true rfl⟩) (z_recv Cx hw (r := (RX8, TX8, 26)) zM_x rfl) rfl hl.1 rfl (Nat.le_of_ble_eq_true rfl) dX8_addNetwork_92 ⟨Nat.le_of_ble_eq_true rfl, Nat.le_of_ble_eq_true rfl⟩) (fun H locs hw => ?_)
                refine lv_if_ne (tgt := 100) hx hb dX8_addNetwork_95 (by decide) (fun c_95 => ?_) (fun c_95 => ?_)
                · skip
                  exact absurd (by decide) c_95
                · skip
                  refine lv_iconst (v := 0) hx hb dX8_addNetwork_98 (by decide) ?_
                  exact z_iret (wf := (fun (u : zU) => zQ E (X ++ zMw E y ad u.2.1 u.2.2.1) C)) Cx hr rfl (Nat.le_of_ble_eq_true rfl) (Nat.le_of_ble_eq_true rfl) (2, _, _, V) hw ⟨Or.inr ⟨hbz, Or.inl ⟨rfl, rfl, hcd⟩⟩, zMT_0 hT _, rfl⟩ dX8_addNetwork_99
              · skip
                have hcd := (hex (hq.mpr hbz)).mp ((zb_1 _).mp c_84)
                refine lv_iconst (v := nI 0) hx hb dX8_addNetwork_87 rfl ?_
                refine lv_goto (tgt := 92) hx hb dX8_addNetwork_88 (by decide) ?_
                refine z_goe hw.2 (z_runV Cx hw (c_X8_holds E l X C y ad sc g _) (cwV 1 Cx.1.2.2.2.2 gX8_addNetwork_X8_holds rfl rfl rfl (by decide +kernel) ⟨Nat.le_of_ble_eq_true rfl, Nat.le_of_ble_eq_true rfl⟩) (z_recv Cx hw (r := (RX8, TX8, 26)) zM_x rfl) rfl hl.1 rfl (Nat.le_of_ble_eq_true rfl) dX8_addNetwork_92 ⟨Nat.le_of_ble_eq_true rfl, Nat.le_of_ble_eq_true rfl⟩) (fun H locs hw => ?_)
                refine lv_if_ne (tgt := 100) hx hb dX8_addNetwork_95 (by decide) (fun c_95 => ?_) (fun c_95 => ?_)
                · skip
                  refine lv_aload_n hx hb dX8_addNetwork_100 rfl (lv_at hl 0 rfl) ?_
                  refine z_get Cx hw (T := TX8) (N := 26) (ci := 11) (fun _ h => List.mem_cons_of_mem _ (List.mem_append_right _ (h))) zM_x rfl 2 (by decide) (List.mem_of_getElem? (i := 2) rfl) rfl rfl dX8_addNetwork_101 ?_
                  refine lv_aload_n hx hb dX8_addNetwork_104 rfl (lv_at hl 0 rfl) ?_
                  refine z_get Cx hw (T := TX8) (N := 26) (ci := 11) (fun _ h => List.mem_cons_of_mem _ (List.mem_append_right _ (h))) zM_x rfl 1 (by decide) (List.mem_of_getElem? (i := 1) rfl) rfl rfl dX8_addNetwork_105 ?_
                  refine lv_topi (fun x_105 ex_105 => ?_)
                  have e_105 : x_105 = nI (vN V).length := ex_105.trans hn1
                  clear ex_105
                  subst e_105
                  refine lv_iload_n hx hb dX8_addNetwork_108 rfl (lv_at hl 1 rfl) ?_
                  refine lv_iload_n hx hb dX8_addNetwork_109 rfl (lv_at hl 2 rfl) ?_
                  refine z_goe hw.2 (z_runS Cx hw (c_X8_block E l _ b z) (va_cwS 2 Cx.1.2.2.2.2 gX8_addNetwork_X8_block rfl rfl rfl (by decide +kernel) ⟨Nat.le_of_ble_eq_true rfl, Nat.le_of_ble_eq_true rfl⟩)  rfl hl.1 rfl (Nat.le_of_ble_eq_true rfl) dX8_addNetwork_110 ⟨Nat.le_of_ble_eq_true rfl, Nat.le_of_ble_eq_true rfl⟩) (fun H locs hw => ?_)
                  rw [show (16 : Int32) * b + z = zbi (b, z) from rfl]
                  refine zm_iast Cx hw (k := 2) (n := 4) (by decide) hcd.1 dX8_addNetwork_113 (fun H locs hw => ?_)
                  refine lv_aload_n hx hb dX8_addNetwork_114 rfl (lv_at hl 0 rfl) ?_
                  refine lv_dup hx hb dX8_addNetwork_115 rfl ?_
                  refine z_get Cx hw (T := TX8) (N := 26) (ci := 11) (fun _ h => List.mem_cons_of_mem _ (List.mem_append_right _ (h))) zM_x rfl 1 (by decide) (List.mem_of_getElem? (i := 1) rfl) rfl rfl dX8_addNetwork_116 ?_
                  refine lv_topi (fun x_116 ex_116 => ?_)
                  have e_116 : x_116 = nI (vN V).length := ex_116.trans hn1
                  clear ex_116
                  subst e_116
                  refine lv_iconst (v := 1) hx hb dX8_addNetwork_119 (by decide) ?_
                  refine lv_iadd hx hb dX8_addNetwork_120 ?_
                  rw [show nI (vN V).length + 1 = nI ((vN V).length + 1) from nI_1 _]
                  refine z_put Cx (X := X) hw (T := TX8) (N := 26) (ci := 11) (ty := .int) (fun _ h => List.mem_cons_of_mem _ (List.mem_append_right _ (h))) tyX8 tyX8_ok nmX8 zM_o rfl 1 (by decide) (List.mem_of_getElem? (i := 1) rfl) rfl rfl (by decide +kernel) rfl rfl (Nat.le_of_ble_eq_true rfl) dX8_addNetwork_121 (fun H locs hw2 => ?_)
                  have hw := zM_putS 1 (nI ((vN V).length + 1)) hw hw2 rfl
                  refine lv_aload_n hx hb dX8_addNetwork_124 rfl (lv_at hl 0 rfl) ?_
                  refine z_get Cx hw (T := TX8) (N := 26) (ci := 11) (fun _ h => List.mem_cons_of_mem _ (List.mem_append_right _ (h))) zM_x rfl 1 (by decide) (List.mem_of_getElem? (i := 1) rfl) rfl rfl dX8_addNetwork_125 ?_
                  refine lv_iconst (v := 1) hx hb dX8_addNetwork_128 (by decide) ?_
                  refine lv_isub hx hb dX8_addNetwork_129 ?_
                  exact z_iret (wf := (fun (u : zU) => zQ E (X ++ zMw E y ad u.2.1 u.2.2.1) C)) Cx hr rfl (Nat.le_of_ble_eq_true rfl) (Nat.le_of_ble_eq_true rfl) (0, _, _, _) hw ⟨Or.inr ⟨hbz, Or.inr ⟨hcd, rfl, rfl, nI_pred _⟩⟩, zMT_addN (zMT_0 hT _) hcd.1 (b, z), rfl⟩ dX8_addNetwork_130
                · skip
                  exact absurd c_95 (by decide)
            · skip
              have hbz : ¬ zbok b z := fun h => by
                have h9 := (zb_0 _).mp c_75
                rw [hq.mpr h] at h9; cases h9
              refine lv_iconst (v := nI 1) hx hb dX8_addNetwork_78 rfl ?_
              refine lv_goto (tgt := 92) hx hb dX8_addNetwork_79 (by decide) ?_
              refine z_goe hw.2 (z_runV Cx hw (c_X8_holds E l X C y ad sc g _) (cwV 1 Cx.1.2.2.2.2 gX8_addNetwork_X8_holds rfl rfl rfl (by decide +kernel) ⟨Nat.le_of_ble_eq_true rfl, Nat.le_of_ble_eq_true rfl⟩) (z_recv Cx hw (r := (RX8, TX8, 26)) zM_x rfl) rfl hl.1 rfl (Nat.le_of_ble_eq_true rfl) dX8_addNetwork_92 ⟨Nat.le_of_ble_eq_true rfl, Nat.le_of_ble_eq_true rfl⟩) (fun H locs hw => ?_)
              refine lv_if_ne (tgt := 100) hx hb dX8_addNetwork_95 (by decide) (fun c_95 => ?_) (fun c_95 => ?_)
              · skip
                exact absurd (by decide) c_95
              · skip
                refine lv_iconst (v := 0) hx hb dX8_addNetwork_98 (by decide) ?_
                exact z_iret (wf := (fun (u : zU) => zQ E (X ++ zMw E y ad u.2.1 u.2.2.1) C)) Cx hr rfl (Nat.le_of_ble_eq_true rfl) (Nat.le_of_ble_eq_true rfl) (1, _, _, V) hw ⟨Or.inl ⟨rfl, rfl, hbz⟩, zMT_0 hT _, rfl⟩ dX8_addNetwork_99
          · skip
            have hq1 : q = true := (zb_1 _).mp c_34
            have hbz : zbok b z := hq.mp hq1
            refine lv_iload hx hb dX8_addNetwork_37 (lv_at hl 4 rfl) ?_
            refine lv_if_eq (tgt := 64) hx hb dX8_addNetwork_39 (by decide) (fun c_39 => ?_) (fun c_39 => ?_)
            · skip
              have hF0 : q = true → false = (decide ((vN V).length < 4) && !((vN V).take (i + 1)).any (fun w => zovl w (b, z))) := fun h => by
                have h9 := hF h
                rw [(zb_0 _).mp c_39] at h9
                rw [ht, List.any_append, Bool.not_or, ← Bool.and_assoc, ← h9]; rfl
              refine lv_iconst (v := zb false) hx hb dX8_addNetwork_64 rfl ?_
              refine lv_istore hx hb dX8_addNetwork_65 hl (by decide) rfl (fun ls hl => ?_)
              have hl : lv_has ls 6 [(4, .int (zb false)), (0, .ref y), (1, .int b), (2, .int z), (3, .int (zb q)), (5, .int (nI i))] := hl
              refine lv_iinc (v := nI (i + 1)) hx hb dX8_addNetwork_67 hl (k := 5) rfl (nI_1 i) (by decide) rfl (fun ls hl => ?_)
              have hl : lv_has ls 6 [(5, .int (nI (i + 1))), (4, .int (zb false)), (0, .ref y), (1, .int b), (2, .int z), (3, .int (zb q))] := hl
              refine lv_goto (tgt := 24) hx hb dX8_addNetwork_70 (by decide) ?_
              exact ih_24 (i + 1) false H _ ls (by omega) hF0 (by omega) hw (lv_sub hl [2, 3, 4, 5, 1, 0] rfl)
            · skip
              refine lv_aload_n hx hb dX8_addNetwork_42 rfl (lv_at hl 0 rfl) ?_
              refine z_get Cx hw (T := TX8) (N := 26) (ci := 11) (fun _ h => List.mem_cons_of_mem _ (List.mem_append_right _ (h))) zM_x rfl 2 (by decide) (List.mem_of_getElem? (i := 2) rfl) rfl rfl dX8_addNetwork_43 ?_
              refine lv_iload hx hb dX8_addNetwork_46 (lv_at hl 5 rfl) ?_
              refine zm_iald Cx hw (k := 2) (n := 4) (by decide) (by omega) dX8_addNetwork_48 ?_
              refine lv_topi (fun x_48 ex_48 => ?_)
              have e_48 := ex_48.trans (hg2)
              clear ex_48
              subst e_48
              refine lv_iload_n hx hb dX8_addNetwork_49 rfl (lv_at hl 1 rfl) ?_
              refine lv_iload_n hx hb dX8_addNetwork_50 rfl (lv_at hl 2 rfl) ?_
              refine z_goe hw.2 (z_runS Cx hw (c_X8_block E l (zQ E (X ++ zMw E y ad sc g) C) b z) (va_cwS 2 Cx.1.2.2.2.2 gX8_addNetwork_X8_block rfl rfl rfl (by decide +kernel) ⟨Nat.le_of_ble_eq_true rfl, Nat.le_of_ble_eq_true rfl⟩)  rfl hl.1 rfl (Nat.le_of_ble_eq_true rfl) dX8_addNetwork_51 ⟨Nat.le_of_ble_eq_true rfl, Nat.le_of_ble_eq_true rfl⟩) (fun H locs hw => ?_)
              rw [show (16 : Int32) * b + z = zbi (b, z) from rfl]
              refine z_goe hw.2 (z_runS Cx hw (c_X8_haveCommon E l (zQ E (X ++ zMw E y ad sc g) C) (zbi u) (zbi (b, z))) (va_cwS 2 Cx.1.2.2.2.2 gX8_addNetwork_X8_haveCommon rfl rfl rfl (by decide +kernel) ⟨Nat.le_of_ble_eq_true rfl, Nat.le_of_ble_eq_true rfl⟩)  rfl hl.1 rfl (Nat.le_of_ble_eq_true rfl) dX8_addNetwork_54 ⟨Nat.le_of_ble_eq_true rfl, Nat.le_of_ble_eq_true rfl⟩) (fun H locs hw => ?_)
              refine lv_if_ne (tgt := 64) hx hb dX8_addNetwork_57 (by decide) (fun c_57 => ?_) (fun c_57 => ?_)
              · skip
                have hF1 : q = true → false = (decide ((vN V).length < 4) && !((vN V).take (i + 1)).any (fun w => zovl w (b, z))) := fun h => by
                  have h8 := (zb_1 _).mp c_57
                  rw [zmcom_eq (hI.1.1 u (List.mem_of_getElem? hu)) hbz] at h8
                  rw [ht, List.any_append, List.any_cons, h8, Bool.true_or, Bool.or_true]; simp
                refine lv_iconst (v := zb false) hx hb dX8_addNetwork_64 rfl ?_
                refine lv_istore hx hb dX8_addNetwork_65 hl (by decide) rfl (fun ls hl => ?_)
                have hl : lv_has ls 6 [(4, .int (zb false)), (0, .ref y), (1, .int b), (2, .int z), (3, .int (zb q)), (5, .int (nI i))] := hl
                refine lv_iinc (v := nI (i + 1)) hx hb dX8_addNetwork_67 hl (k := 5) rfl (nI_1 i) (by decide) rfl (fun ls hl => ?_)
                have hl : lv_has ls 6 [(5, .int (nI (i + 1))), (4, .int (zb false)), (0, .ref y), (1, .int b), (2, .int z), (3, .int (zb q))] := hl
                refine lv_goto (tgt := 24) hx hb dX8_addNetwork_70 (by decide) ?_
                exact ih_24 (i + 1) false H _ ls (by omega) hF1 (by omega) hw (lv_sub hl [2, 3, 4, 5, 1, 0] rfl)
              · skip
                have hF2 : q = true → true = (decide ((vN V).length < 4) && !((vN V).take (i + 1)).any (fun w => zovl w (b, z))) := fun h => by
                  have h9 := hF h
                  rw [(zb_1 _).mp c_39] at h9
                  have h8 := (zb_0 _).mp c_57
                  rw [zmcom_eq (hI.1.1 u (List.mem_of_getElem? hu)) hbz] at h8
                  rw [ht, List.any_append, List.any_cons, h8, List.any_nil, Bool.or_false, Bool.or_false]; exact h9
                refine lv_iconst (v := zb true) hx hb dX8_addNetwork_60 rfl ?_
                refine lv_goto (tgt := 65) hx hb dX8_addNetwork_61 (by decide) ?_
                refine lv_istore hx hb dX8_addNetwork_65 hl (by decide) rfl (fun ls hl => ?_)
                have hl : lv_has ls 6 [(4, .int (zb true)), (0, .ref y), (1, .int b), (2, .int z), (3, .int (zb q)), (5, .int (nI i))] := hl
                refine lv_iinc (v := nI (i + 1)) hx hb dX8_addNetwork_67 hl (k := 5) rfl (nI_1 i) (by decide) rfl (fun ls hl => ?_)
                have hl : lv_has ls 6 [(5, .int (nI (i + 1))), (4, .int (zb true)), (0, .ref y), (1, .int b), (2, .int z), (3, .int (zb q))] := hl
                refine lv_goto (tgt := 24) hx hb dX8_addNetwork_70 (by decide) ?_
                exact ih_24 (i + 1) true H _ ls (by omega) hF2 (by omega) hw (lv_sub hl [2, 3, 4, 5, 1, 0] rfl)
    exact loop_24 (((vN V).length - 0) + 1) 0 F _ _ ls (Nat.zero_le _) hF (Nat.lt_succ_self _) hw (lv_sub hl [0, 1, 2, 3, 4, 5] rfl)
  refine lv_icmp_ge (tgt := 18) hx hb dX8_addNetwork_11 (by decide) (fun c_11 => ?_) (fun c_11 => ?_)
  · skip
    have hc11 : ¬ (vN V).length < 4 := by
      have := (nI_leI (a := 4) (b := (vN V).length) (by omega) (by omega)).mp c_11
      omega
    refine lv_iconst (v := zb false) hx hb dX8_addNetwork_18 rfl ?_
    refine lv_istore hx hb dX8_addNetwork_19 hl (by decide) rfl (fun ls hl => ?_)
    have hl : lv_has ls 6 [(4, .int (zb false)), (3, .int (zb q)), (0, .ref y), (1, .int b), (2, .int z)] := hl
    refine lv_iconst (v := nI 0) hx hb dX8_addNetwork_21 rfl ?_
    refine lv_istore hx hb dX8_addNetwork_22 hl (by decide) rfl (fun ls hl => ?_)
    have hl : lv_has ls 6 [(5, .int (nI 0)), (4, .int (zb false)), (3, .int (zb q)), (0, .ref y), (1, .int b), (2, .int z)] := hl
    exact cut_24 false H _ ls (fun _ => by simp [hc11]) hw (lv_sub hl [3, 4, 5, 2, 1, 0] rfl)
  · skip
    have hc11 : (vN V).length < 4 := by
      rcases Nat.lt_or_ge (vN V).length 4 with h | h
      · exact h
      · exact absurd (nI_le (a := 4) h (by omega)) c_11
    refine lv_iconst (v := zb true) hx hb dX8_addNetwork_14 rfl ?_
    refine lv_goto (tgt := 19) hx hb dX8_addNetwork_15 (by decide) ?_
    refine lv_istore hx hb dX8_addNetwork_19 hl (by decide) rfl (fun ls hl => ?_)
    have hl : lv_has ls 6 [(4, .int (zb true)), (3, .int (zb q)), (0, .ref y), (1, .int b), (2, .int z)] := hl
    refine lv_iconst (v := nI 0) hx hb dX8_addNetwork_21 rfl ?_
    refine lv_istore hx hb dX8_addNetwork_22 hl (by decide) rfl (fun ls hl => ?_)
    have hl : lv_has ls 6 [(5, .int (nI 0)), (4, .int (zb true)), (3, .int (zb q)), (0, .ref y), (1, .int b), (2, .int z)] := hl
    exact cut_24 true H _ ls (fun _ => by simp [hc11]) hw (lv_sub hl [3, 4, 5, 2, 1, 0] rfl)


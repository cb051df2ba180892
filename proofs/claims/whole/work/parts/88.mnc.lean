set_option maxRecDepth 100000 in
set_option maxHeartbeats 4000000 in
/-- addHost -/
theorem c_m_addHost (E : zG) (l : Launch) (X : va_W) (C : zLs) (y : Nat) (ad : Nat → Nat) (sc : Nat → Int32) (g : Nat → Nat → Int32) (V : zCl) (hT : zMT sc g V) (hI : zInv V) (f a : Int32) : Met l yX8_addHost wsX8_addHost (zR 3 0 0) (zPre E [.ref y, .int f, .int a] (zQ E (X ++ zMw E y ad sc g) C)) (zPm E X C y ad (zA_addHost V f a)) 0 0 (eA E) := by
  refine z_of (cc := cX8_addHost) (maxL := 7) (ret := (some .int)) (by decide) rfl rfl (Nat.le_of_ble_eq_true rfl) ?_
  intro p e s m below meth c ls Cx hr hnm hw hl
  have hx := Cx.1.1
  have hb := Cx.1.2.1
  have hR := hT.1
  have hn1 : sc 1 = nI (vN V).length := hR.1.1
  have hm1 := hR.1.2.1
  have hn3 : sc 3 = nI (vS V).length := hR.2.1.1
  have hm3 := hR.2.1.2.1
  have hn6 : sc 6 = nI (vH V).length := hR.2.2.1.1
  have hm6 := hR.2.2.1.2.1
  have hn10 : sc 10 = nI (vP V).length := hR.2.2.2.1.1
  have hm10 := hR.2.2.2.1.2.1
  have hn13 : sc 13 = nI (vG V).length := hR.2.2.2.2.1
  have hm13 := hR.2.2.2.2.2.1
  have hl : lv_has ls 7 [(0, .ref y), (1, .int f), (2, .int a)] := hl
  refine lv_iload_n hx hb dX8_addHost_0 rfl (lv_at hl 1 rfl) ?_
  refine lv_aload_n hx hb dX8_addHost_1 rfl (lv_at hl 0 rfl) ?_
  refine z_get Cx hw (T := TX8) (N := 26) (ci := 11) (fun _ h => List.mem_cons_of_mem _ (List.mem_append_right _ (h))) zM_x rfl 3 (by decide) (List.mem_of_getElem? (i := 1) rfl) rfl rfl dX8_addHost_2 ?_
  refine z_goe hw.2 (z_runS Cx hw (c_X8_isIn E l (zQ E (X ++ zMw E y ad sc g) C) f (sc 3)) (va_cwS 2 Cx.1.2.2.2.2 gX8_addHost_X8_isIn rfl rfl rfl (by decide +kernel) ⟨Nat.le_of_ble_eq_true rfl, Nat.le_of_ble_eq_true rfl⟩)  rfl hl.1 rfl (Nat.le_of_ble_eq_true rfl) dX8_addHost_5 ⟨Nat.le_of_ble_eq_true rfl, Nat.le_of_ble_eq_true rfl⟩) (fun H locs hw => ?_)
  refine lv_topi (fun x_5 ex_5 => ?_)
  obtain ⟨q1, hq1, e_5⟩ : ∃ q : Bool, (q = true ↔ zix f (vS V).length) ∧ x_5 = zb q := ⟨_, (by rw [hn3]; exact zmin_ix (by omega)), ex_5⟩
  clear ex_5
  subst e_5
  refine lv_istore_n hx hb dX8_addHost_8 rfl hl (by decide) rfl (fun ls hl => ?_)
  have hl : lv_has ls 7 [(3, .int (zb q1)), (0, .ref y), (1, .int f), (2, .int a)] := hl
  refine lv_iload_n hx hb dX8_addHost_9 rfl (lv_at hl 0 rfl) ?_
  have cut_33 : ∀ (q2 : Bool) (H : Heap) (locs : List Loc) (ls : Array Slot), (q2 = true ↔ ∃ (k : Nat) (v : zSb), f = nI k ∧ (vS V)[k]? = some v ∧ zhs v.2.1.1 v.2.1.2 a = true) → zHw E (zQ E (X ++ zMw E y ad sc g) C) s H locs → lv_has ls 7 [(0, .ref y), (1, .int f), (2, .int a), (3, .int (zb q1)), (4, .int (zb q2))] → W p l e (zR 3 0 0) s m ([.ref y, .int f, .int a] : List Value).toArray below meth c H locs 0 0 (MQ below (zPm E X C y ad (zA_addHost V f a)) ([.ref y, .int f, .int a] : List Value).toArray s 0 0 (eA E)) (F0 m 33 ls []) := by
    intro q2 H locs ls hq2 hw hl
    refine lv_aload_n hx hb dX8_addHost_33 rfl (lv_at hl 0 rfl) ?_
    refine z_get Cx hw (T := TX8) (N := 26) (ci := 11) (fun _ h => List.mem_cons_of_mem _ (List.mem_append_right _ (h))) zM_x rfl 6 (by decide) (List.mem_of_getElem? (i := 3) rfl) rfl rfl dX8_addHost_34 ?_
    refine lv_topi (fun x_34 ex_34 => ?_)
    have e_34 : x_34 = nI (vH V).length := ex_34.trans hn6
    clear ex_34
    subst e_34
    refine lv_bipush (v := nI 12) hx hb dX8_addHost_37 rfl ?_
    have cut_52 : ∀ (F : Bool) (H : Heap) (locs : List Loc) (ls : Array Slot), (F = (decide ((vH V).length < 12) && !((vH V).take 0).any (fun h => decide (h.2.1 = a)))) → zHw E (zQ E (X ++ zMw E y ad sc g) C) s H locs → lv_has ls 7 [(0, .ref y), (1, .int f), (2, .int a), (3, .int (zb q1)), (4, .int (zb q2)), (5, .int (zb F)), (6, .int (nI 0))] → W p l e (zR 3 0 0) s m ([.ref y, .int f, .int a] : List Value).toArray below meth c H locs 0 0 (MQ below (zPm E X C y ad (zA_addHost V f a)) ([.ref y, .int f, .int a] : List Value).toArray s 0 0 (eA E)) (F0 m 52 ls []) := by
      intro F H locs ls hF hw hl
      have loop_52 : ∀ (nn : Nat) (i : Nat) (F : Bool) (H : Heap) (locs : List Loc) (ls : Array Slot), (i ≤ (vH V).length) → (F = (decide ((vH V).length < 12) && !((vH V).take i).any (fun h => decide (h.2.1 = a)))) → (vH V).length - i < nn → zHw E (zQ E (X ++ zMw E y ad sc g) C) s H locs → lv_has ls 7 [(0, .ref y), (1, .int f), (2, .int a), (3, .int (zb q1)), (4, .int (zb q2)), (5, .int (zb F)), (6, .int (nI i))] → W p l e (zR 3 0 0) s m ([.ref y, .int f, .int a] : List Value).toArray below meth c H locs 0 0 (MQ below (zPm E X C y ad (zA_addHost V f a)) ([.ref y, .int f, .int a] : List Value).toArray s 0 0 (eA E)) (F0 m 52 ls []) := by
        intro nn
        induction nn with
        | zero => intro i F H locs ls hi hF hm; exact absurd hm (Nat.not_lt_zero _)
        | succ nn ih_52 =>
          intro i F H locs ls hi hF hm hw hl
          refine lv_iload hx hb dX8_addHost_52 (lv_at hl 6 rfl) ?_
          refine lv_aload_n hx hb dX8_addHost_54 rfl (lv_at hl 0 rfl) ?_
          refine z_get Cx hw (T := TX8) (N := 26) (ci := 11) (fun _ h => List.mem_cons_of_mem _ (List.mem_append_right _ (h))) zM_x rfl 6 (by decide) (List.mem_of_getElem? (i := 3) rfl) rfl rfl dX8_addHost_55 ?_
          refine lv_topi (fun x_55 ex_55 => ?_)
          have e_55 : x_55 = nI (vH V).length := ex_55.trans hn6
          clear ex_55
          subst e_55
          refine lv_icmp_ge (tgt := 90) hx hb dX8_addHost_58 (by decide) (fun c_58 => ?_) (fun c_58 => ?_)
          · skip
            have hiN : i = (vH V).length := by
              have := (nI_leI (a := (vH V).length) (b := i) (by omega) (by omega)).mp c_58
              omega
            have hex : F = true ↔ ((vH V).length < 12 ∧ (vH V).any (fun h => decide (h.2.1 = a)) = false) := by
              rw [hF, hiN, List.take_length, Bool.and_eq_true, decide_eq_true_iff, Bool.not_eq_true']
            refine lv_aload_n hx hb dX8_addHost_90 rfl (lv_at hl 0 rfl) ?_
            refine lv_iload_n hx hb dX8_addHost_91 rfl (lv_at hl 3 rfl) ?_
            refine lv_if_ne (tgt := 99) hx hb dX8_addHost_92 (by decide) (fun c_92 => ?_) (fun c_92 => ?_)
            · skip
              have hz1 := hq1.mp ((zb_1 _).mp c_92)
              refine lv_iload hx hb dX8_addHost_99 (lv_at hl 4 rfl) ?_
              refine lv_if_ne (tgt := 108) hx hb dX8_addHost_101 (by decide) (fun c_101 => ?_) (fun c_101 => ?_)
              · skip
                obtain ⟨k2, v2, e2, hv2, hzh⟩ := hq2.mp ((zb_1 _).mp c_101)
                refine lv_iload hx hb dX8_addHost_108 (lv_at hl 5 rfl) ?_
                refine lv_if_eq (tgt := 117) hx hb dX8_addHost_110 (by decide) (fun c_110 => ?_) (fun c_110 => ?_)
                · skip
                  have hcd : ¬ ((vH V).length < 12 ∧ (vH V).any (fun h => decide (h.2.1 = a)) = false) := fun h => by
                    have h9 := (zb_0 _).mp c_110
                    rw [hex.mpr h] at h9; cases h9
                  refine lv_iconst (v := nI 3) hx hb dX8_addHost_117 rfl ?_
                  refine z_goe hw.2 (z_runV Cx hw (c_X8_holds E l X C y ad sc g _) (cwV 1 Cx.1.2.2.2.2 gX8_addHost_X8_holds rfl rfl rfl (by decide +kernel) ⟨Nat.le_of_ble_eq_true rfl, Nat.le_of_ble_eq_true rfl⟩) (z_recv Cx hw (r := (RX8, TX8, 26)) zM_x rfl) rfl hl.1 rfl (Nat.le_of_ble_eq_true rfl) dX8_addHost_118 ⟨Nat.le_of_ble_eq_true rfl, Nat.le_of_ble_eq_true rfl⟩) (fun H locs hw => ?_)
                  refine lv_if_ne (tgt := 126) hx hb dX8_addHost_121 (by decide) (fun c_121 => ?_) (fun c_121 => ?_)
                  · skip
                    exact absurd (by decide) c_121
                  · skip
                    refine lv_iconst (v := 0) hx hb dX8_addHost_124 (by decide) ?_
                    exact z_iret (wf := (fun (u : zU) => zQ E (X ++ zMw E y ad u.2.1 u.2.2.1) C)) Cx hr rfl (Nat.le_of_ble_eq_true rfl) (Nat.le_of_ble_eq_true rfl) (3, _, _, V) hw ⟨Or.inr ⟨hz1, k2, v2, e2, hv2, Or.inr ⟨hzh, Or.inl ⟨rfl, rfl, hcd⟩⟩⟩, zMT_0 hT _, rfl⟩ dX8_addHost_125
                · skip
                  have hcd := hex.mp ((zb_1 _).mp c_110)
                  refine lv_iconst (v := nI 0) hx hb dX8_addHost_113 rfl ?_
                  refine lv_goto (tgt := 118) hx hb dX8_addHost_114 (by decide) ?_
                  refine z_goe hw.2 (z_runV Cx hw (c_X8_holds E l X C y ad sc g _) (cwV 1 Cx.1.2.2.2.2 gX8_addHost_X8_holds rfl rfl rfl (by decide +kernel) ⟨Nat.le_of_ble_eq_true rfl, Nat.le_of_ble_eq_true rfl⟩) (z_recv Cx hw (r := (RX8, TX8, 26)) zM_x rfl) rfl hl.1 rfl (Nat.le_of_ble_eq_true rfl) dX8_addHost_118 ⟨Nat.le_of_ble_eq_true rfl, Nat.le_of_ble_eq_true rfl⟩) (fun H locs hw => ?_)
                  refine lv_if_ne (tgt := 126) hx hb dX8_addHost_121 (by decide) (fun c_121 => ?_) (fun c_121 => ?_)
                  · skip
                    subst e2
                    refine lv_aload_n hx hb dX8_addHost_126 rfl (lv_at hl 0 rfl) ?_
                    refine z_get Cx hw (T := TX8) (N := 26) (ci := 11) (fun _ h => List.mem_cons_of_mem _ (List.mem_append_right _ (h))) zM_x rfl 7 (by decide) (List.mem_of_getElem? (i := 5) rfl) rfl rfl dX8_addHost_127 ?_
                    refine lv_aload_n hx hb dX8_addHost_130 rfl (lv_at hl 0 rfl) ?_
                    refine z_get Cx hw (T := TX8) (N := 26) (ci := 11) (fun _ h => List.mem_cons_of_mem _ (List.mem_append_right _ (h))) zM_x rfl 6 (by decide) (List.mem_of_getElem? (i := 3) rfl) rfl rfl dX8_addHost_131 ?_
                    refine lv_topi (fun x_131 ex_131 => ?_)
                    have e_131 : x_131 = nI (vH V).length := ex_131.trans hn6
                    clear ex_131
                    subst e_131
                    refine lv_iload_n hx hb dX8_addHost_134 rfl (lv_at hl 1 rfl) ?_
                    refine zm_iast Cx hw (k := 7) (n := 12) (by decide) hcd.1 dX8_addHost_135 (fun H locs hw => ?_)
                    refine lv_aload_n hx hb dX8_addHost_136 rfl (lv_at hl 0 rfl) ?_
                    refine z_get Cx hw (T := TX8) (N := 26) (ci := 11) (fun _ h => List.mem_cons_of_mem _ (List.mem_append_right _ (h))) zM_x rfl 8 (by decide) (List.mem_of_getElem? (i := 4) rfl) rfl rfl dX8_addHost_137 ?_
                    refine lv_aload_n hx hb dX8_addHost_140 rfl (lv_at hl 0 rfl) ?_
                    refine z_get Cx hw (T := TX8) (N := 26) (ci := 11) (fun _ h => List.mem_cons_of_mem _ (List.mem_append_right _ (h))) zM_x rfl 6 (by decide) (List.mem_of_getElem? (i := 3) rfl) rfl rfl dX8_addHost_141 ?_
                    refine lv_topi (fun x_141 ex_141 => ?_)
                    have e_141 : x_141 = nI (vH V).length := ex_141.trans hn6
                    clear ex_141
                    subst e_141
                    refine lv_iload_n hx hb dX8_addHost_144 rfl (lv_at hl 2 rfl) ?_
                    refine zm_iast Cx hw (k := 8) (n := 12) (by decide) hcd.1 dX8_addHost_145 (fun H locs hw => ?_)
                    refine lv_aload_n hx hb dX8_addHost_146 rfl (lv_at hl 0 rfl) ?_
                    refine lv_dup hx hb dX8_addHost_147 rfl ?_
                    refine z_get Cx hw (T := TX8) (N := 26) (ci := 11) (fun _ h => List.mem_cons_of_mem _ (List.mem_append_right _ (h))) zM_x rfl 6 (by decide) (List.mem_of_getElem? (i := 3) rfl) rfl rfl dX8_addHost_148 ?_
                    refine lv_topi (fun x_148 ex_148 => ?_)
                    have e_148 : x_148 = nI (vH V).length := ex_148.trans hn6
                    clear ex_148
                    subst e_148
                    refine lv_iconst (v := 1) hx hb dX8_addHost_151 (by decide) ?_
                    refine lv_iadd hx hb dX8_addHost_152 ?_
                    rw [show nI (vH V).length + 1 = nI ((vH V).length + 1) from nI_1 _]
                    refine z_put Cx (X := X) hw (T := TX8) (N := 26) (ci := 11) (ty := .int) (fun _ h => List.mem_cons_of_mem _ (List.mem_append_right _ (h))) tyX8 tyX8_ok nmX8 zM_o rfl 6 (by decide) (List.mem_of_getElem? (i := 3) rfl) rfl rfl (by decide +kernel) rfl rfl (Nat.le_of_ble_eq_true rfl) dX8_addHost_153 (fun H locs hw2 => ?_)
                    have hw := zM_putS 6 (nI ((vH V).length + 1)) hw hw2 rfl
                    refine lv_aload_n hx hb dX8_addHost_156 rfl (lv_at hl 0 rfl) ?_
                    refine z_get Cx hw (T := TX8) (N := 26) (ci := 11) (fun _ h => List.mem_cons_of_mem _ (List.mem_append_right _ (h))) zM_x rfl 6 (by decide) (List.mem_of_getElem? (i := 3) rfl) rfl rfl dX8_addHost_157 ?_
                    refine lv_iconst (v := 1) hx hb dX8_addHost_160 (by decide) ?_
                    refine lv_isub hx hb dX8_addHost_161 ?_
                    exact z_iret (wf := (fun (u : zU) => zQ E (X ++ zMw E y ad u.2.1 u.2.2.1) C)) Cx hr rfl (Nat.le_of_ble_eq_true rfl) (Nat.le_of_ble_eq_true rfl) (0, _, _, _) hw ⟨Or.inr ⟨hz1, k2, v2, rfl, hv2, Or.inr ⟨hzh, Or.inr ⟨hcd, rfl, rfl, nI_pred _⟩⟩⟩, zMT_addH (zMT_0 hT _) hcd.1 (List.getElem?_eq_some_iff.mp hv2).1 a, rfl⟩ dX8_addHost_162
                  · skip
                    exact absurd c_121 (by decide)
              · skip
                have hno2 : ¬ (∃ (k : Nat) (v : zSb), f = nI k ∧ (vS V)[k]? = some v ∧ zhs v.2.1.1 v.2.1.2 a = true) := fun h => by
                  have h9 := (zb_0 _).mp c_101
                  rw [hq2.mpr h] at h9; cases h9
                obtain ⟨k2, hk2, e2⟩ := hz1
                obtain ⟨v2, hv2⟩ : ∃ v, (vS V)[k2]? = some v := ⟨_, List.getElem?_eq_getElem hk2⟩
                refine lv_iconst (v := nI 2) hx hb dX8_addHost_104 rfl ?_
                refine lv_goto (tgt := 118) hx hb dX8_addHost_105 (by decide) ?_
                refine z_goe hw.2 (z_runV Cx hw (c_X8_holds E l X C y ad sc g _) (cwV 1 Cx.1.2.2.2.2 gX8_addHost_X8_holds rfl rfl rfl (by decide +kernel) ⟨Nat.le_of_ble_eq_true rfl, Nat.le_of_ble_eq_true rfl⟩) (z_recv Cx hw (r := (RX8, TX8, 26)) zM_x rfl) rfl hl.1 rfl (Nat.le_of_ble_eq_true rfl) dX8_addHost_118 ⟨Nat.le_of_ble_eq_true rfl, Nat.le_of_ble_eq_true rfl⟩) (fun H locs hw => ?_)
                refine lv_if_ne (tgt := 126) hx hb dX8_addHost_121 (by decide) (fun c_121 => ?_) (fun c_121 => ?_)
                · skip
                  exact absurd (by decide) c_121
                · skip
                  refine lv_iconst (v := 0) hx hb dX8_addHost_124 (by decide) ?_
                  exact z_iret (wf := (fun (u : zU) => zQ E (X ++ zMw E y ad u.2.1 u.2.2.1) C)) Cx hr rfl (Nat.le_of_ble_eq_true rfl) (Nat.le_of_ble_eq_true rfl) (2, _, _, V) hw ⟨Or.inr ⟨⟨k2, hk2, e2⟩, k2, v2, e2, hv2, Or.inl ⟨rfl, rfl, fun h => hno2 ⟨k2, v2, e2, hv2, h⟩⟩⟩, zMT_0 hT _, rfl⟩ dX8_addHost_125
            · skip
              have hz1 : ¬ zix f (vS V).length := fun h => by
                have h9 := (zb_0 _).mp c_92
                rw [hq1.mpr h] at h9; cases h9
              refine lv_iconst (v := nI 1) hx hb dX8_addHost_95 rfl ?_
              refine lv_goto (tgt := 118) hx hb dX8_addHost_96 (by decide) ?_
              refine z_goe hw.2 (z_runV Cx hw (c_X8_holds E l X C y ad sc g _) (cwV 1 Cx.1.2.2.2.2 gX8_addHost_X8_holds rfl rfl rfl (by decide +kernel) ⟨Nat.le_of_ble_eq_true rfl, Nat.le_of_ble_eq_true rfl⟩) (z_recv Cx hw (r := (RX8, TX8, 26)) zM_x rfl) rfl hl.1 rfl (Nat.le_of_ble_eq_true rfl) dX8_addHost_118 ⟨Nat.le_of_ble_eq_true rfl, Nat.le_of_ble_eq_true rfl⟩) (fun H locs hw => ?_)
              refine lv_if_ne (tgt := 126) hx hb dX8_addHost_121 (by decide) (fun c_121 => ?_) (fun c_121 => ?_)
              · skip
                exact absurd (by decide) c_121
              · skip
                refine lv_iconst (v := 0) hx hb dX8_addHost_124 (by decide) ?_
                exact z_iret (wf := (fun (u : zU) => zQ E (X ++ zMw E y ad u.2.1 u.2.2.1) C)) Cx hr rfl (Nat.le_of_ble_eq_true rfl) (Nat.le_of_ble_eq_true rfl) (1, _, _, V) hw ⟨Or.inl ⟨rfl, rfl, hz1⟩, zMT_0 hT _, rfl⟩ dX8_addHost_125
          · skip
            have hiN : i < (vH V).length := by
              rcases Nat.lt_or_ge i ((vH V).length) with h | h
              · exact h
              · exact absurd (nI_le h (by omega)) c_58
            have hu := List.getElem?_eq_getElem hiN
            generalize (vH V)[i] = u at hu
            have ht : (vH V).take (i + 1) = (vH V).take i ++ [u] := z_take hu
            have hg8 := (hR.2.2.1.2.2 i u hu).2.1
            refine lv_iload hx hb dX8_addHost_61 (lv_at hl 5 rfl) ?_
            refine lv_if_eq (tgt := 81) hx hb dX8_addHost_63 (by decide) (fun c_63 => ?_) (fun c_63 => ?_)
            · skip
              have hF0 : false = (decide ((vH V).length < 12) && !((vH V).take (i + 1)).any (fun h => decide (h.2.1 = a))) := by
                have h9 := hF
                rw [(zb_0 _).mp c_63] at h9
                rw [ht, List.any_append, Bool.not_or, ← Bool.and_assoc, ← h9]; rfl
              refine lv_iconst (v := zb false) hx hb dX8_addHost_81 rfl ?_
              refine lv_istore hx hb dX8_addHost_82 hl (by decide) rfl (fun ls hl => ?_)
              have hl : lv_has ls 7 [(5, .int (zb false)), (0, .ref y), (1, .int f), (2, .int a), (3, .int (zb q1)), (4, .int (zb q2)), (6, .int (nI i))] := hl
              refine lv_iinc (v := nI (i + 1)) hx hb dX8_addHost_84 hl (k := 6) rfl (nI_1 i) (by decide) rfl (fun ls hl => ?_)
              have hl : lv_has ls 7 [(6, .int (nI (i + 1))), (5, .int (zb false)), (0, .ref y), (1, .int f), (2, .int a), (3, .int (zb q1)), (4, .int (zb q2))] := hl
              refine lv_goto (tgt := 52) hx hb dX8_addHost_87 (by decide) ?_
              exact ih_52 (i + 1) false H _ ls (by omega) hF0 (by omega) hw (lv_sub hl [2, 3, 4, 5, 6, 1, 0] rfl)
            · skip
              refine lv_aload_n hx hb dX8_addHost_66 rfl (lv_at hl 0 rfl) ?_
              refine z_get Cx hw (T := TX8) (N := 26) (ci := 11) (fun _ h => List.mem_cons_of_mem _ (List.mem_append_right _ (h))) zM_x rfl 8 (by decide) (List.mem_of_getElem? (i := 4) rfl) rfl rfl dX8_addHost_67 ?_
              refine lv_iload hx hb dX8_addHost_70 (lv_at hl 6 rfl) ?_
              refine zm_iald Cx hw (k := 8) (n := 12) (by decide) (by omega) dX8_addHost_72 ?_
              refine lv_topi (fun x_72 ex_72 => ?_)
              have e_72 := ex_72.trans (hg8)
              clear ex_72
              subst e_72
              refine lv_iload_n hx hb dX8_addHost_73 rfl (lv_at hl 2 rfl) ?_
              refine lv_icmp_eq (tgt := 81) hx hb dX8_addHost_74 (by decide) (fun c_74 => ?_) (fun c_74 => ?_)
              · skip
                have hF1 : false = (decide ((vH V).length < 12) && !((vH V).take (i + 1)).any (fun h => decide (h.2.1 = a))) := by
                  rw [ht, List.any_append, List.any_cons, decide_eq_true c_74, Bool.true_or, Bool.or_true]; simp
                refine lv_iconst (v := zb false) hx hb dX8_addHost_81 rfl ?_
                refine lv_istore hx hb dX8_addHost_82 hl (by decide) rfl (fun ls hl => ?_)
                have hl : lv_has ls 7 [(5, .int (zb false)), (0, .ref y), (1, .int f), (2, .int a), (3, .int (zb q1)), (4, .int (zb q2)), (6, .int (nI i))] := hl
                refine lv_iinc (v := nI (i + 1)) hx hb dX8_addHost_84 hl (k := 6) rfl (nI_1 i) (by decide) rfl (fun ls hl => ?_)
                have hl : lv_has ls 7 [(6, .int (nI (i + 1))), (5, .int (zb false)), (0, .ref y), (1, .int f), (2, .int a), (3, .int (zb q1)), (4, .int (zb q2))] := hl
                refine lv_goto (tgt := 52) hx hb dX8_addHost_87 (by decide) ?_
                exact ih_52 (i + 1) false H _ ls (by omega) hF1 (by omega) hw (lv_sub hl [2, 3, 4, 5, 6, 1, 0] rfl)
              · skip
                have hF2 : true = (decide ((vH V).length < 12) && !((vH V).take (i + 1)).any (fun h => decide (h.2.1 = a))) := by
                  have h9 := hF
                  rw [(zb_1 _).mp c_63] at h9
                  rw [ht, List.any_append, List.any_cons, decide_eq_false c_74, List.any_nil, Bool.or_false, Bool.or_false]; exact h9
                refine lv_iconst (v := zb true) hx hb dX8_addHost_77 rfl ?_
                refine lv_goto (tgt := 82) hx hb dX8_addHost_78 (by decide) ?_
                refine lv_istore hx hb dX8_addHost_82 hl (by decide) rfl (fun ls hl => ?_)
                have hl : lv_has ls 7 [(5, .int (zb true)), (0, .ref y), (1, .int f), (2, .int a), (3, .int (zb q1)), (4, .int (zb q2)), (6, .int (nI i))] := hl
                refine lv_iinc (v := nI (i + 1)) hx hb dX8_addHost_84 hl (k := 6) rfl (nI_1 i) (by decide) rfl (fun ls hl => ?_)
                have hl : lv_has ls 7 [(6, .int (nI (i + 1))), (5, .int (zb true)), (0, .ref y), (1, .int f), (2, .int a), (3, .int (zb q1)), (4, .int (zb q2))] := hl
                refine lv_goto (tgt := 52) hx hb dX8_addHost_87 (by decide) ?_
                exact ih_52 (i + 1) true H _ ls (by omega) hF2 (by omega) hw (lv_sub hl [2, 3, 4, 5, 6, 1, 0] rfl)
      exact loop_52 (((vH V).length - 0) + 1) 0 F _ _ ls (Nat.zero_le _) hF (Nat.lt_succ_self _) hw (lv_sub hl [0, 1, 2, 3, 4, 5, 6] rfl)
    refine lv_icmp_ge (tgt := 46) hx hb dX8_addHost_39 (by decide) (fun c_39 => ?_) (fun c_39 => ?_)
    · skip
      have hc39 : ¬ (vH V).length < 12 := by
        have := (nI_leI (a := 12) (b := (vH V).length) (by omega) (by omega)).mp c_39
        omega
      refine lv_iconst (v := zb false) hx hb dX8_addHost_46 rfl ?_
      refine lv_istore hx hb dX8_addHost_47 hl (by decide) rfl (fun ls hl => ?_)
      have hl : lv_has ls 7 [(5, .int (zb false)), (0, .ref y), (1, .int f), (2, .int a), (3, .int (zb q1)), (4, .int (zb q2))] := hl
      refine lv_iconst (v := nI 0) hx hb dX8_addHost_49 rfl ?_
      refine lv_istore hx hb dX8_addHost_50 hl (by decide) rfl (fun ls hl => ?_)
      have hl : lv_has ls 7 [(6, .int (nI 0)), (5, .int (zb false)), (0, .ref y), (1, .int f), (2, .int a), (3, .int (zb q1)), (4, .int (zb q2))] := hl
      exact cut_52 false H _ ls (by simp [hc39]) hw (lv_sub hl [2, 3, 4, 5, 6, 1, 0] rfl)
    · skip
      have hc39 : (vH V).length < 12 := by
        rcases Nat.lt_or_ge ((vH V).length) 12 with h | h
        · exact h
        · exact absurd (nI_le (a := 12) h (by omega)) c_39
      refine lv_iconst (v := zb true) hx hb dX8_addHost_42 rfl ?_
      refine lv_goto (tgt := 47) hx hb dX8_addHost_43 (by decide) ?_
      refine lv_istore hx hb dX8_addHost_47 hl (by decide) rfl (fun ls hl => ?_)
      have hl : lv_has ls 7 [(5, .int (zb true)), (0, .ref y), (1, .int f), (2, .int a), (3, .int (zb q1)), (4, .int (zb q2))] := hl
      refine lv_iconst (v := nI 0) hx hb dX8_addHost_49 rfl ?_
      refine lv_istore hx hb dX8_addHost_50 hl (by decide) rfl (fun ls hl => ?_)
      have hl : lv_has ls 7 [(6, .int (nI 0)), (5, .int (zb true)), (0, .ref y), (1, .int f), (2, .int a), (3, .int (zb q1)), (4, .int (zb q2))] := hl
      exact cut_52 true H _ ls (by simp [hc39]) hw (lv_sub hl [2, 3, 4, 5, 6, 1, 0] rfl)
  refine lv_if_eq (tgt := 30) hx hb dX8_addHost_10 (by decide) (fun c_10 => ?_) (fun c_10 => ?_)
  · skip
    have hno : ¬ (∃ (k : Nat) (v : zSb), f = nI k ∧ (vS V)[k]? = some v ∧ zhs v.2.1.1 v.2.1.2 a = true) := fun ⟨k9, v9, e9, hv9, h9⟩ => by
      have h9 := (zb_0 _).mp c_10
      rw [hq1.mpr ⟨k9, (List.getElem?_eq_some_iff.mp hv9).1, e9⟩] at h9; cases h9
    refine lv_iconst (v := zb false) hx hb dX8_addHost_30 rfl ?_
    refine lv_istore hx hb dX8_addHost_31 hl (by decide) rfl (fun ls hl => ?_)
    have hl : lv_has ls 7 [(4, .int (zb false)), (3, .int (zb q1)), (0, .ref y), (1, .int f), (2, .int a)] := hl
    exact cut_33 false H _ ls (iff_of_false Bool.false_ne_true hno) hw (lv_sub hl [2, 3, 4, 1, 0] rfl)
  · skip
    obtain ⟨k, hk, rfl⟩ := hq1.mp ((zb_1 _).mp c_10)
    obtain ⟨v, hv0⟩ : ∃ v, (vS V)[k]? = some v := ⟨_, List.getElem?_eq_getElem hk⟩
    have hvk := (hI.2.1 v (List.mem_of_getElem? hv0)).2.1
    have hg5 := (hR.2.1.2.2 k v hv0).2.1
    refine lv_aload_n hx hb dX8_addHost_13 rfl (lv_at hl 1 rfl) ?_
    refine z_get Cx hw (T := TX8) (N := 26) (ci := 11) (fun _ h => List.mem_cons_of_mem _ (List.mem_append_right _ (h))) zM_x rfl 5 (by decide) (List.mem_of_getElem? (i := 2) rfl) rfl rfl dX8_addHost_14 ?_
    refine lv_iload_n hx hb dX8_addHost_17 rfl (lv_at hl 2 rfl) ?_
    refine zm_iald Cx hw (k := 5) (n := 8) (by decide) (by omega) dX8_addHost_18 ?_
    refine lv_topi (fun x_18 ex_18 => ?_)
    have e_18 := ex_18.trans (hg5)
    clear ex_18
    subst e_18
    refine lv_iload_n hx hb dX8_addHost_19 rfl (lv_at hl 3 rfl) ?_
    refine z_goe hw.2 (z_runS Cx hw (c_X8_has E l (zQ E (X ++ zMw E y ad sc g) C) (zbi v.2.1) a) (va_cwS 2 Cx.1.2.2.2.2 gX8_addHost_X8_has rfl rfl rfl (by decide +kernel) ⟨Nat.le_of_ble_eq_true rfl, Nat.le_of_ble_eq_true rfl⟩)  rfl hl.1 rfl (Nat.le_of_ble_eq_true rfl) dX8_addHost_20 ⟨Nat.le_of_ble_eq_true rfl, Nat.le_of_ble_eq_true rfl⟩) (fun H locs hw => ?_)
    refine lv_if_eq (tgt := 30) hx hb dX8_addHost_23 (by decide) (fun c_23 => ?_) (fun c_23 => ?_)
    · skip
      have hno : ¬ (∃ (k0 : Nat) (v : zSb), nI k = nI k0 ∧ (vS V)[k0]? = some v ∧ zhs v.2.1.1 v.2.1.2 a = true) := fun ⟨k9, v9, e9, hv9, h9⟩ => by
        rw [(z_ixeq (f := nI k) rfl hv9 hv0 e9 rfl (by omega)).2, ← zmhas_eq hvk, (zb_0 _).mp c_23] at h9
        cases h9
      refine lv_iconst (v := zb false) hx hb dX8_addHost_30 rfl ?_
      refine lv_istore hx hb dX8_addHost_31 hl (by decide) rfl (fun ls hl => ?_)
      have hl : lv_has ls 7 [(4, .int (zb false)), (3, .int (zb q1)), (0, .ref y), (1, .int (nI k)), (2, .int a)] := hl
      exact cut_33 false H _ ls (iff_of_false Bool.false_ne_true hno) hw (lv_sub hl [2, 3, 4, 1, 0] rfl)
    · skip
      have hyes : ∃ (k0 : Nat) (v : zSb), nI k = nI k0 ∧ (vS V)[k0]? = some v ∧ zhs v.2.1.1 v.2.1.2 a = true := ⟨k, v, rfl, hv0, by rw [← zmhas_eq hvk]; exact (zb_1 _).mp c_23⟩
      refine lv_iconst (v := zb true) hx hb dX8_addHost_26 rfl ?_
      refine lv_goto (tgt := 31) hx hb dX8_addHost_27 (by decide) ?_
      refine lv_istore hx hb dX8_addHost_31 hl (by decide) rfl (fun ls hl => ?_)
      have hl : lv_has ls 7 [(4, .int (zb true)), (3, .int (zb q1)), (0, .ref y), (1, .int (nI k)), (2, .int a)] := hl
      exact cut_33 true H _ ls (iff_of_true rfl hyes) hw (lv_sub hl [2, 3, 4, 1, 0] rfl)

